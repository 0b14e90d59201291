set_option maxHeartbeats 4000000 in
set_option maxRecDepth 100000 in
theorem c_M_putFirst (l : Launch) (D : va_G) (cI cZ : ClassId) (base st : Nat) (Z : Nat → Nat) (y0 y1 y2 y3 y6 y7 y8 : Nat) {n came MV th : Int} {F Gp SP RF RC : Int → Int} (hn : 0 ≤ n ∧ n < 60) (hF : ∀ k : Int, 0 ≤ k → k < n → 0 ≤ F k ∧ F k < 200) (hFi : ∀ i j : Int, 0 ≤ i → i < n → 0 ≤ j → j < n → F i = F j → i = j) (hG : ∀ k : Int, 0 ≤ k → k < n → 0 ≤ Gp k ∧ Gp k ≤ 255) (hs : SD Gp n) (hcm : 0 ≤ came ∧ came < 200) (G2 : Int → Int) (dm : Int) (SP2 : Int → Int) (hPT : PT Gp n 0 SP G2 dm SP2) : mu_M l yX1_putFirst wsX1_putFirst ({ frames := 4, cells := 0, slots := 0, locals := 97 } : Room) [.ref y0] (AP D cI cZ base st Z y0 y1 y2 y3 y6 y7 y8 n came MV th F Gp SP RF RC) (some (.int (iI (came)))) (fun H => MA D cI cZ base y0 y1 y2 y3 y6 y7 y8 (n + 1) (came + 1) (MV + dm) (0) (insF F 0 came) (G2) (SP2) (RF) (RC) H) (mM y0 y1 y2 y3 y6 y7 y8) := by
  refine mu_of (cc := cX1_putFirst) (maxL := 1) (ret := (some .int)) (own := RX1) (by decide) rfl rfl (Nat.le_of_ble_eq_true rfl) ?_
  intro p e s m below meth c ls B hCP hl hS
  obtain ⟨hx, hb, hml, hr, hts, hown, hlocks⟩ := B
  obtain ⟨hSWs, G, ZN, hGM, hMI, hMW⟩ := id hCP
  obtain ⟨hK, hZL, ⟨hstb, xs, hXL, hAL⟩, hTW⟩ := id hSWs
  obtain ⟨f, g, z, sp, rf, rc, hAf, hAg, hAz, hAsp, hArf, hArc, hP, hDb⟩ := id hMW
  have hD := MW_mD hDb
  have hmb := mM_b hDb
  have hbl := MW_lt hMW
  have hSW0 := hSWs
  have hl : lv_has ls 1 [(0, .ref y0)] := hl
  have hin : ∀ w ∈ u_ws RX1 TX1 10, w ∈ wsX1_putFirst := by decide +kernel
  have q_thrown := hts (.fieldLink RX1 29 "ShelfMarksModel" "thrown" "I") (by decide +kernel)
  refine lv_aload_n hx hb dX1_putFirst_0 rfl (lv_at hl 0 rfl) ?_
  refine lv_aload_n hx hb dX1_putFirst_1 rfl (lv_at hl 0 rfl) ?_
  have hCP : MP D cI cZ base st Z y0 y1 y2 y3 y6 y7 y8 (n) (came) (MV) (th) (F) (G) (ZN) (SP) (RF) (RC) s s.heap := ⟨hSW0.behind hbl hmb hS, ⟨f, g, z, sp, rf, rc, hAf, hAg, hAz, hAsp, hArf, hArc, hP, hD.weaken (fun _ _ _ h => hmb _ h)⟩⟩
  refine pu_callV (v := 0) (As := []) (rest := [.ref y0]) MP_mv ⟨hx, hb, hml, hown, hts⟩ (c_M_isFull l D cI cZ base st Z y0 y1 y2 y3 y6 y7 y8 (by omega) (by omega) 0 (by rw [if_neg (by omega)])) (cwV 0 hts gX1_putFirst_X1_isFull rfl rfl rfl (by decide +kernel) ⟨(Nat.le_of_ble_eq_true rfl), (Nat.le_of_ble_eq_true rfl)⟩) hCP (MP_rc hCP) rfl rfl hl.1 (Nat.le_of_ble_eq_true rfl) dX1_putFirst_2 ⟨Nat.zero_le _, Nat.zero_le _⟩ ?_
  refine pv_if_eq (tgt := 12) hx hb dX1_putFirst_5 (by decide) (by omega) (fun c_5 => ?_) (fun c_5 => ?_)
  · -- 5t
    refine pv_iconst hx hb dX1_putFirst_12 ?_
    refine va_put (D := D) (ci := 1) (v := .int (iI (0))) (ty := .int) (C := RX1) (T := TX1) (N := 10) hx hb hts hin tyX1 tyX1_ok nmX1 hown hK hP hD hS 0 rfl rfl 9 (by decide) q_thrown (fun _ h9 => h9) rfl (by decide +kernel) rfl rfl (Nat.le_of_ble_eq_true rfl) dX1_putFirst_13 (fun H locs hP hD hS => ?_)
    have hP : va_P D vwCl (W1 cI cZ y0 y1 y2 y3 y6 y7 y8 (n) (came) (MV) (0) f g z sp rf rc) H := hP
    have hD : va_D (mM y0 y1 y2 y3 y6 y7 y8) (W1 cI cZ y0 y1 y2 y3 y6 y7 y8 (n) (came) (MV) (0) f g z sp rf rc) := hD
    refine lv_aload_n hx hb dX1_putFirst_16 rfl (lv_at hl 0 rfl) ?_
    refine va_get (D := D) (ci := 1) (v := .int (iI (0))) (C := RX1) (T := TX1) (N := 10) hx hb hts hin hown hK hP 0 rfl rfl 9 (by decide) q_thrown (fun _ h9 => h9) rfl dX1_putFirst_17 ?_
    refine pv_if_le (tgt := 27) hx hb dX1_putFirst_20 (by decide) (by omega) (fun c_20 => ?_) (fun c_20 => ?_)
    · -- 20t
      refine lv_aload_n hx hb dX1_putFirst_27 rfl (lv_at hl 0 rfl) ?_
      refine pv_iconst hx hb dX1_putFirst_28 ?_
      have hCP : MP D cI cZ base st Z y0 y1 y2 y3 y6 y7 y8 (n) (came) (MV) (0) (F) (G) (ZN) (SP) (RF) (RC) s H := ⟨hSW0.behind hbl hmb hS, ⟨f, g, z, sp, rf, rc, hAf, hAg, hAz, hAsp, hArf, hArc, hP, hD.weaken (fun _ _ _ h => hmb _ h)⟩⟩
      refine mu_callV (As := [.int (iI (0))]) (rest := []) MP_mv ⟨hx, hb, hml, hown, hts⟩ (c_M_comes l D cI cZ base st Z y0 y1 y2 y3 y6 y7 y8 hn hF hFi Gp hGM hG hs hcm (fun k h0 h1 => hMI.2.2.2 k h0 h1) 0 (by omega) G2 dm SP2 hPT) (cwV 1 hts gX1_putFirst_X1_comes rfl rfl rfl (by decide +kernel) ⟨(Nat.le_of_ble_eq_true rfl), (Nat.le_of_ble_eq_true rfl)⟩) hCP (MP_rc hCP) rfl rfl hl.1 (Nat.le_of_ble_eq_true rfl) dX1_putFirst_29 ⟨Nat.zero_le _, Nat.zero_le _⟩ hS (fun _ h => h) (fun H locs hC9 hz9 hk9 hS => ?_)
      obtain ⟨G9, hG9, hC9⟩ := hC9
      have hC9 : MW D cI cZ base y0 y1 y2 y3 y6 y7 y8 (n + 1) (came + 1) (MV + dm) (0) (insF F 0 came) (G9) (uI ZN came 1) (SP2) (RF) (RC) H := hC9
      obtain ⟨f, g, z, sp, rf, rc, hAf, hAg, hAz, hAsp, hArf, hArc, hP, hDb⟩ := hC9
      have hD := MW_mD hDb
      exact mu_iret hx hb hr hlocks hS dX1_putFirst_32 (by rfl) ⟨G9, uI ZN came 1, hG9, MI_ins hMI hF hcm.2 (by omega), ⟨f, g, z, sp, rf, rc, hAf, hAg, hAz, hAsp, hArf, hArc, hP, hD.weaken (fun _ _ _ h => hmb _ h)⟩⟩
    · exact absurd c_20 (by omega)
  · exact absurd c_5 (by omega)
set_option maxHeartbeats 4000000 in
set_option maxRecDepth 100000 in
theorem d_M_putFirst (l : Launch) (D : va_G) (cI cZ : ClassId) (base st : Nat) (Z : Nat → Nat) (y0 y1 y2 y3 y6 y7 y8 : Nat) {n came MV th : Int} {F Gp SP RF RC : Int → Int} (hn : 0 ≤ n ∧ n ≤ 60) (hcm : 0 ≤ came ∧ came ≤ 200) (hfr : ¬ (came < 200 ∧ n < 60)) : mu_M l yX1_putFirst wsX1_putFirst ({ frames := 1, cells := 0, slots := 0, locals := 20 } : Room) [.ref y0] (AP D cI cZ base st Z y0 y1 y2 y3 y6 y7 y8 n came MV th F Gp SP RF RC) (some (.int (iI (0)))) (fun H => MA D cI cZ base y0 y1 y2 y3 y6 y7 y8 (n) (came) (MV) (1) (F) (Gp) (SP) (RF) (RC) H) (mM y0 y1 y2 y3 y6 y7 y8) := by
  refine mu_of (cc := cX1_putFirst) (maxL := 1) (ret := (some .int)) (own := RX1) (by decide) rfl rfl (Nat.le_of_ble_eq_true rfl) ?_
  intro p e s m below meth c ls B hCP hl hS
  obtain ⟨hx, hb, hml, hr, hts, hown, hlocks⟩ := B
  obtain ⟨hSWs, G, ZN, hGM, hMI, hMW⟩ := id hCP
  obtain ⟨hK, hZL, ⟨hstb, xs, hXL, hAL⟩, hTW⟩ := id hSWs
  obtain ⟨f, g, z, sp, rf, rc, hAf, hAg, hAz, hAsp, hArf, hArc, hP, hDb⟩ := id hMW
  have hD := MW_mD hDb
  have hmb := mM_b hDb
  have hbl := MW_lt hMW
  have hSW0 := hSWs
  have hl : lv_has ls 1 [(0, .ref y0)] := hl
  have hin : ∀ w ∈ u_ws RX1 TX1 10, w ∈ wsX1_putFirst := by decide +kernel
  have q_thrown := hts (.fieldLink RX1 29 "ShelfMarksModel" "thrown" "I") (by decide +kernel)
  refine lv_aload_n hx hb dX1_putFirst_0 rfl (lv_at hl 0 rfl) ?_
  refine lv_aload_n hx hb dX1_putFirst_1 rfl (lv_at hl 0 rfl) ?_
  have hCP : MP D cI cZ base st Z y0 y1 y2 y3 y6 y7 y8 (n) (came) (MV) (th) (F) (G) (ZN) (SP) (RF) (RC) s s.heap := ⟨hSW0.behind hbl hmb hS, ⟨f, g, z, sp, rf, rc, hAf, hAg, hAz, hAsp, hArf, hArc, hP, hD.weaken (fun _ _ _ h => hmb _ h)⟩⟩
  refine pu_callV (v := 1) (As := []) (rest := [.ref y0]) MP_mv ⟨hx, hb, hml, hown, hts⟩ (c_M_isFull l D cI cZ base st Z y0 y1 y2 y3 y6 y7 y8 hn hcm 1 (by rw [if_pos (by omega)])) (cwV 0 hts gX1_putFirst_X1_isFull rfl rfl rfl (by decide +kernel) ⟨(Nat.le_of_ble_eq_true rfl), (Nat.le_of_ble_eq_true rfl)⟩) hCP (MP_rc hCP) rfl rfl hl.1 (Nat.le_of_ble_eq_true rfl) dX1_putFirst_2 ⟨Nat.zero_le _, Nat.zero_le _⟩ ?_
  refine pv_if_eq (tgt := 12) hx hb dX1_putFirst_5 (by decide) (by omega) (fun c_5 => ?_) (fun c_5 => ?_)
  · exact absurd c_5 (by omega)
  · -- 5f
    refine pv_iconst hx hb dX1_putFirst_8 ?_
    refine lv_goto (tgt := 13) hx hb dX1_putFirst_9 (by decide) ?_
    refine va_put (D := D) (ci := 1) (v := .int (iI (1))) (ty := .int) (C := RX1) (T := TX1) (N := 10) hx hb hts hin tyX1 tyX1_ok nmX1 hown hK hP hD hS 0 rfl rfl 9 (by decide) q_thrown (fun _ h9 => h9) rfl (by decide +kernel) rfl rfl (Nat.le_of_ble_eq_true rfl) dX1_putFirst_13 (fun H locs hP hD hS => ?_)
    have hP : va_P D vwCl (W1 cI cZ y0 y1 y2 y3 y6 y7 y8 (n) (came) (MV) (1) f g z sp rf rc) H := hP
    have hD : va_D (mM y0 y1 y2 y3 y6 y7 y8) (W1 cI cZ y0 y1 y2 y3 y6 y7 y8 (n) (came) (MV) (1) f g z sp rf rc) := hD
    refine lv_aload_n hx hb dX1_putFirst_16 rfl (lv_at hl 0 rfl) ?_
    refine va_get (D := D) (ci := 1) (v := .int (iI (1))) (C := RX1) (T := TX1) (N := 10) hx hb hts hin hown hK hP 0 rfl rfl 9 (by decide) q_thrown (fun _ h9 => h9) rfl dX1_putFirst_17 ?_
    refine pv_if_le (tgt := 27) hx hb dX1_putFirst_20 (by decide) (by omega) (fun c_20 => ?_) (fun c_20 => ?_)
    · exact absurd c_20 (by omega)
    · -- 20f
      refine pv_iconst hx hb dX1_putFirst_23 ?_
      refine lv_goto (tgt := 32) hx hb dX1_putFirst_24 (by decide) ?_
      exact mu_iret hx hb hr hlocks hS dX1_putFirst_32 (by rfl) ⟨G, ZN, hGM, hMI, ⟨f, g, z, sp, rf, rc, hAf, hAg, hAz, hAsp, hArf, hArc, hP, hD.weaken (fun _ _ _ h => hmb _ h)⟩⟩
set_option maxHeartbeats 4000000 in
set_option maxRecDepth 100000 in
theorem c_M_putBehind (l : Launch) (D : va_G) (cI cZ : ClassId) (base st : Nat) (Z : Nat → Nat) (y0 y1 y2 y3 y6 y7 y8 : Nat) {n came MV th : Int} {F Gp SP RF RC : Int → Int} (hn : 0 ≤ n ∧ n < 60) (hF : ∀ k : Int, 0 ≤ k → k < n → 0 ≤ F k ∧ F k < 200) (hFi : ∀ i j : Int, 0 ≤ i → i < n → 0 ≤ j → j < n → F i = F j → i = j) (hG : ∀ k : Int, 0 ≤ k → k < n → 0 ≤ Gp k ∧ Gp k ≤ 255) (hs : SD Gp n) (hcm : 0 ≤ came ∧ came < 200) (x : Int) (hxr : (-2147483648 ≤ x ∧ x ≤ 2147483647)) (rp : Int) (hrp : PL F n x rp) (h0 : 0 ≤ rp) (G2 : Int → Int) (dm : Int) (SP2 : Int → Int) (hPT : PT Gp n (rp + 1) SP G2 dm SP2) : mu_M l yX1_putBehind wsX1_putBehind ({ frames := 4, cells := 0, slots := 0, locals := 97 } : Room) [.ref y0, .int (iI (x))] (AP D cI cZ base st Z y0 y1 y2 y3 y6 y7 y8 n came MV th F Gp SP RF RC) (some (.int (iI (came)))) (fun H => MA D cI cZ base y0 y1 y2 y3 y6 y7 y8 (n + 1) (came + 1) (MV + dm) (0) (insF F (rp + 1) came) (G2) (SP2) (RF) (RC) H) (mM y0 y1 y2 y3 y6 y7 y8) := by
  refine mu_of (cc := cX1_putBehind) (maxL := 2) (ret := (some .int)) (own := RX1) (by decide) rfl rfl (Nat.le_of_ble_eq_true rfl) ?_
  intro p e s m below meth c ls B hCP hl hS
  obtain ⟨hx, hb, hml, hr, hts, hown, hlocks⟩ := B
  obtain ⟨hSWs, G, ZN, hGM, hMI, hMW⟩ := id hCP
  obtain ⟨hK, hZL, ⟨hstb, xs, hXL, hAL⟩, hTW⟩ := id hSWs
  obtain ⟨f, g, z, sp, rf, rc, hAf, hAg, hAz, hAsp, hArf, hArc, hP, hDb⟩ := id hMW
  have hD := MW_mD hDb
  have hmb := mM_b hDb
  have hbl := MW_lt hMW
  have hSW0 := hSWs
  have hl : lv_has ls 2 [(0, .ref y0), (1, .int (iI (x)))] := hl
  have hin : ∀ w ∈ u_ws RX1 TX1 10, w ∈ wsX1_putBehind := by decide +kernel
  have q_thrown := hts (.fieldLink RX1 29 "ShelfMarksModel" "thrown" "I") (by decide +kernel)
  obtain ⟨hx1, hx2, hx3⟩ := PL_p hrp h0
  refine lv_aload_n hx hb dX1_putBehind_0 rfl (lv_at hl 0 rfl) ?_
  refine lv_aload_n hx hb dX1_putBehind_1 rfl (lv_at hl 0 rfl) ?_
  refine lv_iload_n hx hb dX1_putBehind_2 rfl (lv_at hl 1 rfl) ?_
  have hCP : MP D cI cZ base st Z y0 y1 y2 y3 y6 y7 y8 (n) (came) (MV) (th) (F) (G) (ZN) (SP) (RF) (RC) s s.heap := ⟨hSW0.behind hbl hmb hS, ⟨f, g, z, sp, rf, rc, hAf, hAg, hAz, hAsp, hArf, hArc, hP, hD.weaken (fun _ _ _ h => hmb _ h)⟩⟩
  refine pu_callV (v := 1) (As := [.int (iI (x))]) (rest := [.ref y0]) MP_mv ⟨hx, hb, hml, hown, hts⟩ (c_M_known l D cI cZ base st Z y0 y1 y2 y3 y6 y7 y8 hMI x hxr 1 (kn_1 hMI hF hrp h0).symm) (cwV 1 hts gX1_putBehind_X1_known rfl rfl rfl (by decide +kernel) ⟨(Nat.le_of_ble_eq_true rfl), (Nat.le_of_ble_eq_true rfl)⟩) hCP (MP_rc hCP) rfl rfl hl.1 (Nat.le_of_ble_eq_true rfl) dX1_putBehind_3 ⟨Nat.zero_le _, Nat.zero_le _⟩ ?_
  refine pv_if_ne (tgt := 13) hx hb dX1_putBehind_6 (by decide) (by omega) (fun c_6 => ?_) (fun c_6 => ?_)
  · -- 6t
    refine lv_aload_n hx hb dX1_putBehind_13 rfl (lv_at hl 0 rfl) ?_
    have hCP : MP D cI cZ base st Z y0 y1 y2 y3 y6 y7 y8 (n) (came) (MV) (th) (F) (G) (ZN) (SP) (RF) (RC) s s.heap := ⟨hSW0.behind hbl hmb hS, ⟨f, g, z, sp, rf, rc, hAf, hAg, hAz, hAsp, hArf, hArc, hP, hD.weaken (fun _ _ _ h => hmb _ h)⟩⟩
    refine pu_callV (v := 0) (As := []) (rest := [.ref y0]) MP_mv ⟨hx, hb, hml, hown, hts⟩ (c_M_isFull l D cI cZ base st Z y0 y1 y2 y3 y6 y7 y8 (by omega) (by omega) 0 (by rw [if_neg (by omega)])) (cwV 0 hts gX1_putBehind_X1_isFull rfl rfl rfl (by decide +kernel) ⟨(Nat.le_of_ble_eq_true rfl), (Nat.le_of_ble_eq_true rfl)⟩) hCP (MP_rc hCP) rfl rfl hl.1 (Nat.le_of_ble_eq_true rfl) dX1_putBehind_14 ⟨Nat.zero_le _, Nat.zero_le _⟩ ?_
    refine pv_if_eq (tgt := 24) hx hb dX1_putBehind_17 (by decide) (by omega) (fun c_17 => ?_) (fun c_17 => ?_)
    · -- 17t
      refine pv_iconst hx hb dX1_putBehind_24 ?_
      refine va_put (D := D) (ci := 1) (v := .int (iI (0))) (ty := .int) (C := RX1) (T := TX1) (N := 10) hx hb hts hin tyX1 tyX1_ok nmX1 hown hK hP hD hS 0 rfl rfl 9 (by decide) q_thrown (fun _ h9 => h9) rfl (by decide +kernel) rfl rfl (Nat.le_of_ble_eq_true rfl) dX1_putBehind_25 (fun H locs hP hD hS => ?_)
      have hP : va_P D vwCl (W1 cI cZ y0 y1 y2 y3 y6 y7 y8 (n) (came) (MV) (0) f g z sp rf rc) H := hP
      have hD : va_D (mM y0 y1 y2 y3 y6 y7 y8) (W1 cI cZ y0 y1 y2 y3 y6 y7 y8 (n) (came) (MV) (0) f g z sp rf rc) := hD
      refine lv_aload_n hx hb dX1_putBehind_28 rfl (lv_at hl 0 rfl) ?_
      refine va_get (D := D) (ci := 1) (v := .int (iI (0))) (C := RX1) (T := TX1) (N := 10) hx hb hts hin hown hK hP 0 rfl rfl 9 (by decide) q_thrown (fun _ h9 => h9) rfl dX1_putBehind_29 ?_
      refine pv_if_le (tgt := 39) hx hb dX1_putBehind_32 (by decide) (by omega) (fun c_32 => ?_) (fun c_32 => ?_)
      · -- 32t
        refine lv_aload_n hx hb dX1_putBehind_39 rfl (lv_at hl 0 rfl) ?_
        refine lv_aload_n hx hb dX1_putBehind_40 rfl (lv_at hl 0 rfl) ?_
        refine lv_iload_n hx hb dX1_putBehind_41 rfl (lv_at hl 1 rfl) ?_
        have hCP : MP D cI cZ base st Z y0 y1 y2 y3 y6 y7 y8 (n) (came) (MV) (0) (F) (G) (ZN) (SP) (RF) (RC) s H := ⟨hSW0.behind hbl hmb hS, ⟨f, g, z, sp, rf, rc, hAf, hAg, hAz, hAsp, hArf, hArc, hP, hD.weaken (fun _ _ _ h => hmb _ h)⟩⟩
        refine pu_callV (v := rp) (As := [.int (iI (x))]) (rest := [.ref y0]) MP_mv ⟨hx, hb, hml, hown, hts⟩ (c_M_place l D cI cZ base st Z y0 y1 y2 y3 y6 y7 y8 (by omega) hF x hxr rp hrp h0) (cwV 1 hts gX1_putBehind_X1_place rfl rfl rfl (by decide +kernel) ⟨(Nat.le_of_ble_eq_true rfl), (Nat.le_of_ble_eq_true rfl)⟩) hCP (MP_rc hCP) rfl rfl hl.1 (Nat.le_of_ble_eq_true rfl) dX1_putBehind_42 ⟨Nat.zero_le _, Nat.zero_le _⟩ ?_
        refine pv_iconst hx hb dX1_putBehind_45 ?_
        refine pv_iadd hx hb dX1_putBehind_46 ?_
        have hCP : MP D cI cZ base st Z y0 y1 y2 y3 y6 y7 y8 (n) (came) (MV) (0) (F) (G) (ZN) (SP) (RF) (RC) s H := ⟨hSW0.behind hbl hmb hS, ⟨f, g, z, sp, rf, rc, hAf, hAg, hAz, hAsp, hArf, hArc, hP, hD.weaken (fun _ _ _ h => hmb _ h)⟩⟩
        refine mu_callV (As := [.int (iI ((rp) + (1)))]) (rest := []) MP_mv ⟨hx, hb, hml, hown, hts⟩ (c_M_comes l D cI cZ base st Z y0 y1 y2 y3 y6 y7 y8 hn hF hFi Gp hGM hG hs hcm (fun k h0 h1 => hMI.2.2.2 k h0 h1) (rp + 1) (by omega) G2 dm SP2 hPT) (cwV 1 hts gX1_putBehind_X1_comes rfl rfl rfl (by decide +kernel) ⟨(Nat.le_of_ble_eq_true rfl), (Nat.le_of_ble_eq_true rfl)⟩) hCP (MP_rc hCP) rfl rfl hl.1 (Nat.le_of_ble_eq_true rfl) dX1_putBehind_47 ⟨Nat.zero_le _, Nat.zero_le _⟩ hS (fun _ h => h) (fun H locs hC9 hz9 hk9 hS => ?_)
        obtain ⟨G9, hG9, hC9⟩ := hC9
        have hC9 : MW D cI cZ base y0 y1 y2 y3 y6 y7 y8 (n + 1) (came + 1) (MV + dm) (0) (insF F (rp + 1) came) (G9) (uI ZN came 1) (SP2) (RF) (RC) H := hC9
        obtain ⟨f, g, z, sp, rf, rc, hAf, hAg, hAz, hAsp, hArf, hArc, hP, hDb⟩ := hC9
        have hD := MW_mD hDb
        exact mu_iret hx hb hr hlocks hS dX1_putBehind_50 (by rfl) ⟨G9, uI ZN came 1, hG9, MI_ins hMI hF hcm.2 (by omega), ⟨f, g, z, sp, rf, rc, hAf, hAg, hAz, hAsp, hArf, hArc, hP, hD.weaken (fun _ _ _ h => hmb _ h)⟩⟩
      · exact absurd c_32 (by omega)
    · exact absurd c_17 (by omega)
  · exact absurd c_6 (by omega)
set_option maxHeartbeats 4000000 in
set_option maxRecDepth 100000 in
theorem d_M_putBehind (l : Launch) (D : va_G) (cI cZ : ClassId) (base st : Nat) (Z : Nat → Nat) (y0 y1 y2 y3 y6 y7 y8 : Nat) {n came MV th : Int} {F Gp SP RF RC : Int → Int} (x : Int) (hxr : (-2147483648 ≤ x ∧ x ≤ 2147483647)) (hrp : PL F n x (-1)) : mu_M l yX1_putBehind wsX1_putBehind ({ frames := 1, cells := 0, slots := 0, locals := 21 } : Room) [.ref y0, .int (iI (x))] (AP D cI cZ base st Z y0 y1 y2 y3 y6 y7 y8 n came MV th F Gp SP RF RC) (some (.int (iI (0)))) (fun H => MA D cI cZ base y0 y1 y2 y3 y6 y7 y8 (n) (came) (MV) (1) (F) (Gp) (SP) (RF) (RC) H) (mM y0 y1 y2 y3 y6 y7 y8) := by
  refine mu_of (cc := cX1_putBehind) (maxL := 2) (ret := (some .int)) (own := RX1) (by decide) rfl rfl (Nat.le_of_ble_eq_true rfl) ?_
  intro p e s m below meth c ls B hCP hl hS
  obtain ⟨hx, hb, hml, hr, hts, hown, hlocks⟩ := B
  obtain ⟨hSWs, G, ZN, hGM, hMI, hMW⟩ := id hCP
  obtain ⟨hK, hZL, ⟨hstb, xs, hXL, hAL⟩, hTW⟩ := id hSWs
  obtain ⟨f, g, z, sp, rf, rc, hAf, hAg, hAz, hAsp, hArf, hArc, hP, hDb⟩ := id hMW
  have hD := MW_mD hDb
  have hmb := mM_b hDb
  have hbl := MW_lt hMW
  have hSW0 := hSWs
  have hl : lv_has ls 2 [(0, .ref y0), (1, .int (iI (x)))] := hl
  have hin : ∀ w ∈ u_ws RX1 TX1 10, w ∈ wsX1_putBehind := by decide +kernel
  have q_thrown := hts (.fieldLink RX1 29 "ShelfMarksModel" "thrown" "I") (by decide +kernel)
  refine lv_aload_n hx hb dX1_putBehind_0 rfl (lv_at hl 0 rfl) ?_
  refine lv_aload_n hx hb dX1_putBehind_1 rfl (lv_at hl 0 rfl) ?_
  refine lv_iload_n hx hb dX1_putBehind_2 rfl (lv_at hl 1 rfl) ?_
  have hCP : MP D cI cZ base st Z y0 y1 y2 y3 y6 y7 y8 (n) (came) (MV) (th) (F) (G) (ZN) (SP) (RF) (RC) s s.heap := ⟨hSW0.behind hbl hmb hS, ⟨f, g, z, sp, rf, rc, hAf, hAg, hAz, hAsp, hArf, hArc, hP, hD.weaken (fun _ _ _ h => hmb _ h)⟩⟩
  refine pu_callV (v := 0) (As := [.int (iI (x))]) (rest := [.ref y0]) MP_mv ⟨hx, hb, hml, hown, hts⟩ (c_M_known l D cI cZ base st Z y0 y1 y2 y3 y6 y7 y8 hMI x hxr 0 (kn_0 hMI hrp).symm) (cwV 1 hts gX1_putBehind_X1_known rfl rfl rfl (by decide +kernel) ⟨(Nat.le_of_ble_eq_true rfl), (Nat.le_of_ble_eq_true rfl)⟩) hCP (MP_rc hCP) rfl rfl hl.1 (Nat.le_of_ble_eq_true rfl) dX1_putBehind_3 ⟨Nat.zero_le _, Nat.zero_le _⟩ ?_
  refine pv_if_ne (tgt := 13) hx hb dX1_putBehind_6 (by decide) (by omega) (fun c_6 => ?_) (fun c_6 => ?_)
  · exact absurd c_6 (by omega)
  · -- 6f
    refine pv_iconst hx hb dX1_putBehind_9 ?_
    refine lv_goto (tgt := 25) hx hb dX1_putBehind_10 (by decide) ?_
    refine va_put (D := D) (ci := 1) (v := .int (iI (1))) (ty := .int) (C := RX1) (T := TX1) (N := 10) hx hb hts hin tyX1 tyX1_ok nmX1 hown hK hP hD hS 0 rfl rfl 9 (by decide) q_thrown (fun _ h9 => h9) rfl (by decide +kernel) rfl rfl (Nat.le_of_ble_eq_true rfl) dX1_putBehind_25 (fun H locs hP hD hS => ?_)
    have hP : va_P D vwCl (W1 cI cZ y0 y1 y2 y3 y6 y7 y8 (n) (came) (MV) (1) f g z sp rf rc) H := hP
    have hD : va_D (mM y0 y1 y2 y3 y6 y7 y8) (W1 cI cZ y0 y1 y2 y3 y6 y7 y8 (n) (came) (MV) (1) f g z sp rf rc) := hD
    refine lv_aload_n hx hb dX1_putBehind_28 rfl (lv_at hl 0 rfl) ?_
    refine va_get (D := D) (ci := 1) (v := .int (iI (1))) (C := RX1) (T := TX1) (N := 10) hx hb hts hin hown hK hP 0 rfl rfl 9 (by decide) q_thrown (fun _ h9 => h9) rfl dX1_putBehind_29 ?_
    refine pv_if_le (tgt := 39) hx hb dX1_putBehind_32 (by decide) (by omega) (fun c_32 => ?_) (fun c_32 => ?_)
    · exact absurd c_32 (by omega)
    · -- 32f
      refine pv_iconst hx hb dX1_putBehind_35 ?_
      refine lv_goto (tgt := 50) hx hb dX1_putBehind_36 (by decide) ?_
      exact mu_iret hx hb hr hlocks hS dX1_putBehind_50 (by rfl) ⟨G, ZN, hGM, hMI, ⟨f, g, z, sp, rf, rc, hAf, hAg, hAz, hAsp, hArf, hArc, hP, hD.weaken (fun _ _ _ h => hmb _ h)⟩⟩
set_option maxHeartbeats 4000000 in
set_option maxRecDepth 100000 in
theorem d_M_putBehind2 (l : Launch) (D : va_G) (cI cZ : ClassId) (base st : Nat) (Z : Nat → Nat) (y0 y1 y2 y3 y6 y7 y8 : Nat) {n came MV th : Int} {F Gp SP RF RC : Int → Int} (hn : 0 ≤ n ∧ n ≤ 60) (hF : ∀ k : Int, 0 ≤ k → k < n → 0 ≤ F k ∧ F k < 200) (x : Int) (hxr : (-2147483648 ≤ x ∧ x ≤ 2147483647)) (rp : Int) (hrp : PL F n x rp) (h0 : 0 ≤ rp) (hcm : 0 ≤ came ∧ came ≤ 200) (hfr : ¬ (came < 200 ∧ n < 60)) : mu_M l yX1_putBehind wsX1_putBehind ({ frames := 1, cells := 0, slots := 0, locals := 21 } : Room) [.ref y0, .int (iI (x))] (AP D cI cZ base st Z y0 y1 y2 y3 y6 y7 y8 n came MV th F Gp SP RF RC) (some (.int (iI (0)))) (fun H => MA D cI cZ base y0 y1 y2 y3 y6 y7 y8 (n) (came) (MV) (2) (F) (Gp) (SP) (RF) (RC) H) (mM y0 y1 y2 y3 y6 y7 y8) := by
  refine mu_of (cc := cX1_putBehind) (maxL := 2) (ret := (some .int)) (own := RX1) (by decide) rfl rfl (Nat.le_of_ble_eq_true rfl) ?_
  intro p e s m below meth c ls B hCP hl hS
  obtain ⟨hx, hb, hml, hr, hts, hown, hlocks⟩ := B
  obtain ⟨hSWs, G, ZN, hGM, hMI, hMW⟩ := id hCP
  obtain ⟨hK, hZL, ⟨hstb, xs, hXL, hAL⟩, hTW⟩ := id hSWs
  obtain ⟨f, g, z, sp, rf, rc, hAf, hAg, hAz, hAsp, hArf, hArc, hP, hDb⟩ := id hMW
  have hD := MW_mD hDb
  have hmb := mM_b hDb
  have hbl := MW_lt hMW
  have hSW0 := hSWs
  have hl : lv_has ls 2 [(0, .ref y0), (1, .int (iI (x)))] := hl
  have hin : ∀ w ∈ u_ws RX1 TX1 10, w ∈ wsX1_putBehind := by decide +kernel
  have q_thrown := hts (.fieldLink RX1 29 "ShelfMarksModel" "thrown" "I") (by decide +kernel)
  refine lv_aload_n hx hb dX1_putBehind_0 rfl (lv_at hl 0 rfl) ?_
  refine lv_aload_n hx hb dX1_putBehind_1 rfl (lv_at hl 0 rfl) ?_
  refine lv_iload_n hx hb dX1_putBehind_2 rfl (lv_at hl 1 rfl) ?_
  have hCP : MP D cI cZ base st Z y0 y1 y2 y3 y6 y7 y8 (n) (came) (MV) (th) (F) (G) (ZN) (SP) (RF) (RC) s s.heap := ⟨hSW0.behind hbl hmb hS, ⟨f, g, z, sp, rf, rc, hAf, hAg, hAz, hAsp, hArf, hArc, hP, hD.weaken (fun _ _ _ h => hmb _ h)⟩⟩
  refine pu_callV (v := 1) (As := [.int (iI (x))]) (rest := [.ref y0]) MP_mv ⟨hx, hb, hml, hown, hts⟩ (c_M_known l D cI cZ base st Z y0 y1 y2 y3 y6 y7 y8 hMI x hxr 1 (kn_1 hMI hF hrp h0).symm) (cwV 1 hts gX1_putBehind_X1_known rfl rfl rfl (by decide +kernel) ⟨(Nat.le_of_ble_eq_true rfl), (Nat.le_of_ble_eq_true rfl)⟩) hCP (MP_rc hCP) rfl rfl hl.1 (Nat.le_of_ble_eq_true rfl) dX1_putBehind_3 ⟨Nat.zero_le _, Nat.zero_le _⟩ ?_
  refine pv_if_ne (tgt := 13) hx hb dX1_putBehind_6 (by decide) (by omega) (fun c_6 => ?_) (fun c_6 => ?_)
  · -- 6t
    refine lv_aload_n hx hb dX1_putBehind_13 rfl (lv_at hl 0 rfl) ?_
    have hCP : MP D cI cZ base st Z y0 y1 y2 y3 y6 y7 y8 (n) (came) (MV) (th) (F) (G) (ZN) (SP) (RF) (RC) s s.heap := ⟨hSW0.behind hbl hmb hS, ⟨f, g, z, sp, rf, rc, hAf, hAg, hAz, hAsp, hArf, hArc, hP, hD.weaken (fun _ _ _ h => hmb _ h)⟩⟩
    refine pu_callV (v := 1) (As := []) (rest := [.ref y0]) MP_mv ⟨hx, hb, hml, hown, hts⟩ (c_M_isFull l D cI cZ base st Z y0 y1 y2 y3 y6 y7 y8 hn hcm 1 (by rw [if_pos (by omega)])) (cwV 0 hts gX1_putBehind_X1_isFull rfl rfl rfl (by decide +kernel) ⟨(Nat.le_of_ble_eq_true rfl), (Nat.le_of_ble_eq_true rfl)⟩) hCP (MP_rc hCP) rfl rfl hl.1 (Nat.le_of_ble_eq_true rfl) dX1_putBehind_14 ⟨Nat.zero_le _, Nat.zero_le _⟩ ?_
    refine pv_if_eq (tgt := 24) hx hb dX1_putBehind_17 (by decide) (by omega) (fun c_17 => ?_) (fun c_17 => ?_)
    · exact absurd c_17 (by omega)
    · -- 17f
      refine pv_iconst hx hb dX1_putBehind_20 ?_
      refine lv_goto (tgt := 25) hx hb dX1_putBehind_21 (by decide) ?_
      refine va_put (D := D) (ci := 1) (v := .int (iI (2))) (ty := .int) (C := RX1) (T := TX1) (N := 10) hx hb hts hin tyX1 tyX1_ok nmX1 hown hK hP hD hS 0 rfl rfl 9 (by decide) q_thrown (fun _ h9 => h9) rfl (by decide +kernel) rfl rfl (Nat.le_of_ble_eq_true rfl) dX1_putBehind_25 (fun H locs hP hD hS => ?_)
      have hP : va_P D vwCl (W1 cI cZ y0 y1 y2 y3 y6 y7 y8 (n) (came) (MV) (2) f g z sp rf rc) H := hP
      have hD : va_D (mM y0 y1 y2 y3 y6 y7 y8) (W1 cI cZ y0 y1 y2 y3 y6 y7 y8 (n) (came) (MV) (2) f g z sp rf rc) := hD
      refine lv_aload_n hx hb dX1_putBehind_28 rfl (lv_at hl 0 rfl) ?_
      refine va_get (D := D) (ci := 1) (v := .int (iI (2))) (C := RX1) (T := TX1) (N := 10) hx hb hts hin hown hK hP 0 rfl rfl 9 (by decide) q_thrown (fun _ h9 => h9) rfl dX1_putBehind_29 ?_
      refine pv_if_le (tgt := 39) hx hb dX1_putBehind_32 (by decide) (by omega) (fun c_32 => ?_) (fun c_32 => ?_)
      · exact absurd c_32 (by omega)
      · -- 32f
        refine pv_iconst hx hb dX1_putBehind_35 ?_
        refine lv_goto (tgt := 50) hx hb dX1_putBehind_36 (by decide) ?_
        exact mu_iret hx hb hr hlocks hS dX1_putBehind_50 (by rfl) ⟨G, ZN, hGM, hMI, ⟨f, g, z, sp, rf, rc, hAf, hAg, hAz, hAsp, hArf, hArc, hP, hD.weaken (fun _ _ _ h => hmb _ h)⟩⟩
  · exact absurd c_6 (by omega)
set_option maxHeartbeats 4000000 in
set_option maxRecDepth 100000 in
theorem c_M_takeOut (l : Launch) (D : va_G) (cI cZ : ClassId) (base st : Nat) (Z : Nat → Nat) (y0 y1 y2 y3 y6 y7 y8 : Nat) {n came MV th : Int} {F Gp SP RF RC : Int → Int} (hn : 0 ≤ n ∧ n ≤ 60) (hF : ∀ k : Int, 0 ≤ k → k < n → 0 ≤ F k ∧ F k < 200) (x : Int) (hxr : (-2147483648 ≤ x ∧ x ≤ 2147483647)) (rp : Int) (hrp : PL F n x rp) (h0 : 0 ≤ rp) (hFi : ∀ i j : Int, 0 ≤ i → i < n → 0 ≤ j → j < n → F i = F j → i = j) (hRF : ∀ k : Int, 0 ≤ k → k < 4 → -1 ≤ RF k ∧ RF k < 200) : mu_M l yX1_takeOut wsX1_takeOut ({ frames := 2, cells := 0, slots := 0, locals := 44 } : Room) [.ref y0, .int (iI (x))] (AP D cI cZ base st Z y0 y1 y2 y3 y6 y7 y8 n came MV th F Gp SP RF RC) (some (.int (iI (n - 1)))) (fun H => MA D cI cZ base y0 y1 y2 y3 y6 y7 y8 (n - 1) (came) (MV) (0) (remF F rp) (remF Gp rp) (SP) (sendF RF x (fa F n (rp + 1))) (RC) H) (mM y0 y1 y2 y3 y6 y7 y8) := by
  refine mu_of (cc := cX1_takeOut) (maxL := 4) (ret := (some .int)) (own := RX1) (by decide) rfl rfl (Nat.le_of_ble_eq_true rfl) ?_
  intro p e s m below meth c ls B hCP hl hS
  obtain ⟨hx, hb, hml, hr, hts, hown, hlocks⟩ := B
  obtain ⟨hSWs, G, ZN, hGM, hMI, hMW⟩ := id hCP
  obtain ⟨hK, hZL, ⟨hstb, xs, hXL, hAL⟩, hTW⟩ := id hSWs
  obtain ⟨f, g, z, sp, rf, rc, hAf, hAg, hAz, hAsp, hArf, hArc, hP, hDb⟩ := id hMW
  have hD := MW_mD hDb
  have hmb := mM_b hDb
  have hbl := MW_lt hMW
  have hSW0 := hSWs
  have hl : lv_has ls 4 [(0, .ref y0), (1, .int (iI (x)))] := hl
  have hin : ∀ w ∈ u_ws RX1 TX1 10, w ∈ wsX1_takeOut := by decide +kernel
  have q_isIn := hts (.fieldLink RX1 16 "ShelfMarksModel" "isIn" "[Z") (by decide +kernel)
  have q_at := hts (.fieldLink RX1 23 "ShelfMarksModel" "at" "[I") (by decide +kernel)
  have q_thrown := hts (.fieldLink RX1 29 "ShelfMarksModel" "thrown" "I") (by decide +kernel)
  have q_size := hts (.fieldLink RX1 36 "ShelfMarksModel" "size" "I") (by decide +kernel)
  obtain ⟨hx1, hx2, hx3⟩ := PL_p hrp h0
  have hgx : G x = Gp rp := by rw [← hx3]; exact hGM rp hx1 hx2
  have hxx := PL_x hF h0 hrp
  refine lv_aload_n hx hb dX1_takeOut_0 rfl (lv_at hl 0 rfl) ?_
  refine lv_aload_n hx hb dX1_takeOut_1 rfl (lv_at hl 0 rfl) ?_
  refine lv_iload_n hx hb dX1_takeOut_2 rfl (lv_at hl 1 rfl) ?_
  have hCP : MP D cI cZ base st Z y0 y1 y2 y3 y6 y7 y8 (n) (came) (MV) (th) (F) (G) (ZN) (SP) (RF) (RC) s s.heap := ⟨hSW0.behind hbl hmb hS, ⟨f, g, z, sp, rf, rc, hAf, hAg, hAz, hAsp, hArf, hArc, hP, hD.weaken (fun _ _ _ h => hmb _ h)⟩⟩
  refine pu_callV (v := 1) (As := [.int (iI (x))]) (rest := [.ref y0]) MP_mv ⟨hx, hb, hml, hown, hts⟩ (c_M_known l D cI cZ base st Z y0 y1 y2 y3 y6 y7 y8 hMI x hxr 1 (kn_1 hMI hF hrp h0).symm) (cwV 1 hts gX1_takeOut_X1_known rfl rfl rfl (by decide +kernel) ⟨(Nat.le_of_ble_eq_true rfl), (Nat.le_of_ble_eq_true rfl)⟩) hCP (MP_rc hCP) rfl rfl hl.1 (Nat.le_of_ble_eq_true rfl) dX1_takeOut_3 ⟨Nat.zero_le _, Nat.zero_le _⟩ ?_
  refine pv_if_eq (tgt := 13) hx hb dX1_takeOut_6 (by decide) (by omega) (fun c_6 => ?_) (fun c_6 => ?_)
  · exact absurd c_6 (by omega)
  · -- 6f
    refine pv_iconst hx hb dX1_takeOut_9 ?_
    refine lv_goto (tgt := 14) hx hb dX1_takeOut_10 (by decide) ?_
    refine va_put (D := D) (ci := 1) (v := .int (iI (0))) (ty := .int) (C := RX1) (T := TX1) (N := 10) hx hb hts hin tyX1 tyX1_ok nmX1 hown hK hP hD hS 0 rfl rfl 9 (by decide) q_thrown (fun _ h9 => h9) rfl (by decide +kernel) rfl rfl (Nat.le_of_ble_eq_true rfl) dX1_takeOut_14 (fun H locs hP hD hS => ?_)
    have hP : va_P D vwCl (W1 cI cZ y0 y1 y2 y3 y6 y7 y8 (n) (came) (MV) (0) f g z sp rf rc) H := hP
    have hD : va_D (mM y0 y1 y2 y3 y6 y7 y8) (W1 cI cZ y0 y1 y2 y3 y6 y7 y8 (n) (came) (MV) (0) f g z sp rf rc) := hD
    refine lv_aload_n hx hb dX1_takeOut_17 rfl (lv_at hl 0 rfl) ?_
    refine va_get (D := D) (ci := 1) (v := .int (iI (0))) (C := RX1) (T := TX1) (N := 10) hx hb hts hin hown hK hP 0 rfl rfl 9 (by decide) q_thrown (fun _ h9 => h9) rfl dX1_takeOut_18 ?_
    refine pv_if_le (tgt := 26) hx hb dX1_takeOut_21 (by decide) (by omega) (fun c_21 => ?_) (fun c_21 => ?_)
    · -- 21t
      refine lv_aload_n hx hb dX1_takeOut_26 rfl (lv_at hl 0 rfl) ?_
      refine lv_iload_n hx hb dX1_takeOut_27 rfl (lv_at hl 1 rfl) ?_
      have hCP : MP D cI cZ base st Z y0 y1 y2 y3 y6 y7 y8 (n) (came) (MV) (0) (F) (G) (ZN) (SP) (RF) (RC) s H := ⟨hSW0.behind hbl hmb hS, ⟨f, g, z, sp, rf, rc, hAf, hAg, hAz, hAsp, hArf, hArc, hP, hD.weaken (fun _ _ _ h => hmb _ h)⟩⟩
      refine pu_callV (v := fa F n (rp + 1)) (As := [.int (iI (x))]) (rest := []) MP_mv ⟨hx, hb, hml, hown, hts⟩ (c_M_behind l D cI cZ base st Z y0 y1 y2 y3 y6 y7 y8 hn hF x hxr rp hrp h0 _ rfl) (cwV 1 hts gX1_takeOut_X1_behind rfl rfl rfl (by decide +kernel) ⟨(Nat.le_of_ble_eq_true rfl), (Nat.le_of_ble_eq_true rfl)⟩) hCP (MP_rc hCP) rfl rfl hl.1 (Nat.le_of_ble_eq_true rfl) dX1_takeOut_28 ⟨Nat.zero_le _, Nat.zero_le _⟩ ?_
      refine lv_istore_n (lv' := [(2, .int (iI (fa F n (rp + 1)))), (0, .ref y0), (1, .int (iI (x)))]) hx hb dX1_takeOut_31 rfl hl (by decide) rfl (fun ls hl => ?_)
      refine pv_iconst hx hb dX1_takeOut_32 ?_
      refine lv_istore_n (lv' := [(3, .int (iI (0))), (2, .int (iI (fa F n (rp + 1)))), (0, .ref y0), (1, .int (iI (x)))]) hx hb dX1_takeOut_33 rfl hl (by decide) rfl (fun ls hl => ?_)
      have hloop34 : ∀ (fuel : Nat) (k : Int) (R2 : Int → Int) (H : Heap) (locs : List Loc) (ls : Array Slot), (4 - k) < fuel → (0 ≤ k ∧ k ≤ 4) → (∀ j : Int, 0 ≤ j → j < k → R2 j = sendF RF x (fa F n (rp + 1)) j) → (∀ j : Int, k ≤ j → j < 4 → R2 j = RF j) → MW D cI cZ base y0 y1 y2 y3 y6 y7 y8 (n) (came) (MV) (0) (F) (G) (ZN) (SP) (R2) (RC) H → va_S (mM y0 y1 y2 y3 y6 y7 y8) s.heap H locs → lv_has ls 4 [(0, .ref y0), (1, .int (iI (x))), (2, .int (iI (fa F n (rp + 1)))), (3, .int (iI (k)))] → W p l e ({ frames := 2, cells := 0, slots := 0, locals := 44 } : Room) s m ([.ref y0, .int (iI (x))] : List Value).toArray below meth c H locs 0 0 (MQ below (mu_Q (some (.int (iI (n - 1)))) (fun H => MA D cI cZ base y0 y1 y2 y3 y6 y7 y8 (n - 1) (came) (MV) (0) (remF F rp) (remF Gp rp) (SP) (sendF RF x (fa F n (rp + 1))) (RC) H) (mM y0 y1 y2 y3 y6 y7 y8)) ([.ref y0, .int (iI (x))] : List Value).toArray s 0 0 (mM y0 y1 y2 y3 y6 y7 y8)) (F0 m 34 ls []) := by
        intro fuel
        induction fuel with
        | zero => intro k R2 H locs ls hfu hk hRa hRb hC9 hS hl; exfalso; omega
        | succ fuel ih =>
          intro k R2 H locs ls hfu hk hRa hRb hC9 hS hl
          obtain ⟨f, g, z, sp, rf, rc, hAf, hAg, hAz, hAsp, hArf, hArc, hP, hDb⟩ := hC9
          have hD := MW_mD hDb
          refine lv_iload_n hx hb dX1_takeOut_34 rfl (lv_at hl 3 rfl) ?_
          refine pv_iconst hx hb dX1_takeOut_35 ?_
          refine pv_icmp_ge (tgt := 71) hx hb dX1_takeOut_36 (by decide) (by omega) (fun c_36 => ?_) (fun c_36 => ?_)
          · -- 36t
            refine lv_aload_n hx hb dX1_takeOut_71 rfl (lv_at hl 0 rfl) ?_
            refine lv_iload_n hx hb dX1_takeOut_72 rfl (lv_at hl 1 rfl) ?_
            have hCP : MP D cI cZ base st Z y0 y1 y2 y3 y6 y7 y8 (n) (came) (MV) (0) (F) (G) (ZN) (SP) (R2) (RC) s H := ⟨hSW0.behind hbl hmb hS, ⟨f, g, z, sp, rf, rc, hAf, hAg, hAz, hAsp, hArf, hArc, hP, hD.weaken (fun _ _ _ h => hmb _ h)⟩⟩
            refine mu_callV (As := [.int (iI (x))]) (rest := []) MP_mv ⟨hx, hb, hml, hown, hts⟩ (c_M_lifts l D cI cZ base st Z y0 y1 y2 y3 y6 y7 y8 hn hF x hxr rp hrp h0) (cwV 1 hts gX1_takeOut_X1_lifts rfl rfl rfl (by decide +kernel) ⟨(Nat.le_of_ble_eq_true rfl), (Nat.le_of_ble_eq_true rfl)⟩) hCP (MP_rc hCP) rfl rfl hl.1 (Nat.le_of_ble_eq_true rfl) dX1_takeOut_73 ⟨Nat.zero_le _, Nat.zero_le _⟩ hS (fun _ h => h) (fun H locs hC9 hz9 hk9 hS => ?_)
            have hC9 : MW D cI cZ base y0 y1 y2 y3 y6 y7 y8 (n - 1) (came) (MV) (0) (remF F rp) (G) (ZN) (SP) (R2) (RC) H := hC9
            obtain ⟨f, g, z, sp, rf, rc, hAf, hAg, hAz, hAsp, hArf, hArc, hP, hDb⟩ := hC9
            have hD := MW_mD hDb
            refine lv_aload_n hx hb dX1_takeOut_76 rfl (lv_at hl 0 rfl) ?_
            refine va_get (D := D) (ci := 1) (v := .ref y3) (C := RX1) (T := TX1) (N := 10) hx hb hts hin hown hK hP 0 rfl rfl 3 (by decide) q_isIn (fun _ h9 => h9) rfl dX1_takeOut_77 ?_
            refine lv_iload_n hx hb dX1_takeOut_80 rfl (lv_at hl 1 rfl) ?_
            refine pv_iconst hx hb dX1_takeOut_81 ?_
            refine pv_zast (i := x) (v := 0) hx hb hK hP hD hS 3 1 rfl rfl (by omega) (by decide) (by omega) dX1_takeOut_82 (fun H locs hP hD hS => ?_)
            have hP : va_P D vwCl (W1 cI cZ y0 y1 y2 y3 y6 y7 y8 (n - 1) (came) (MV) (0) f g (upd z (x).toNat (iI (0))) sp rf rc) H := hP
            have hD : va_D (mM y0 y1 y2 y3 y6 y7 y8) (W1 cI cZ y0 y1 y2 y3 y6 y7 y8 (n - 1) (came) (MV) (0) f g (upd z (x).toNat (iI (0))) sp rf rc) := hD
            have hAz := AR_up (k := x) (v := 0) hAz (by omega)
            generalize upd z (x).toNat (iI (0)) = z at hP hD hAz
            refine lv_aload_n hx hb dX1_takeOut_83 rfl (lv_at hl 0 rfl) ?_
            refine va_get (D := D) (ci := 1) (v := .int (iI (n - 1))) (C := RX1) (T := TX1) (N := 10) hx hb hts hin hown hK hP 0 rfl rfl 1 (by decide) q_size (fun _ h9 => h9) rfl dX1_takeOut_84 ?_
            exact mu_iret hx hb hr hlocks hS dX1_takeOut_87 (by rfl) ⟨G, uI ZN x 0, rem_gm hGM ⟨hx1, hx2⟩, MI_rem hMI hF hFi ⟨hx1, hx2, hx3⟩, ⟨f, g, z, sp, rf, rc, hAf, hAg, hAz, hAsp, AR_to hArf (Int.le_refl _) (fun j h0 h1 => hRa j h0 (by omega)), hArc, hP, hD.weaken (fun _ _ _ h => hmb _ h)⟩⟩
          · -- 36f
            refine lv_aload_n hx hb dX1_takeOut_39 rfl (lv_at hl 0 rfl) ?_
            refine va_get (D := D) (ci := 1) (v := .ref y7) (C := RX1) (T := TX1) (N := 10) hx hb hts hin hown hK hP 0 rfl rfl 7 (by decide) q_at (fun _ h9 => h9) rfl dX1_takeOut_40 ?_
            refine lv_iload_n hx hb dX1_takeOut_43 rfl (lv_at hl 3 rfl) ?_
            refine lv_aload_n hx hb dX1_takeOut_44 rfl (lv_at hl 0 rfl) ?_
            refine va_get (D := D) (ci := 1) (v := .ref y7) (C := RX1) (T := TX1) (N := 10) hx hb hts hin hown hK hP 0 rfl rfl 7 (by decide) q_at (fun _ h9 => h9) rfl dX1_takeOut_45 ?_
            refine lv_iload_n hx hb dX1_takeOut_48 rfl (lv_at hl 3 rfl) ?_
            refine pv_iald (i := k) (v := RF (k)) hx hb hK hP 5 0 rfl rfl (by omega) (by decide) ((hArf _ (by omega) (by omega)).trans (congrArg iI (hRb k (by omega) (by omega)))) dX1_takeOut_49 ?_
            have hrk := hRF k (by omega) (by omega)
            refine lv_iload_n hx hb dX1_takeOut_50 rfl (lv_at hl 1 rfl) ?_
            refine pv_icmp_ne (tgt := 58) hx hb dX1_takeOut_51 (by decide) (by omega) (fun c_51 => ?_) (fun c_51 => ?_)
            · -- 51t
              refine lv_aload_n hx hb dX1_takeOut_58 rfl (lv_at hl 0 rfl) ?_
              refine va_get (D := D) (ci := 1) (v := .ref y7) (C := RX1) (T := TX1) (N := 10) hx hb hts hin hown hK hP 0 rfl rfl 7 (by decide) q_at (fun _ h9 => h9) rfl dX1_takeOut_59 ?_
              refine lv_iload_n hx hb dX1_takeOut_62 rfl (lv_at hl 3 rfl) ?_
              refine pv_iald (i := k) (v := RF (k)) hx hb hK hP 5 0 rfl rfl (by omega) (by decide) ((hArf _ (by omega) (by omega)).trans (congrArg iI (hRb k (by omega) (by omega)))) dX1_takeOut_63 ?_
              refine pv_iast (i := k) (v := RF (k)) hx hb hK hP hD hS 5 0 rfl rfl (by omega) (by decide) dX1_takeOut_64 (fun H locs hP hD hS => ?_)
              have hP : va_P D vwCl (W1 cI cZ y0 y1 y2 y3 y6 y7 y8 (n) (came) (MV) (0) f g z sp (upd rf (k).toNat (iI (RF (k)))) rc) H := hP
              have hD : va_D (mM y0 y1 y2 y3 y6 y7 y8) (W1 cI cZ y0 y1 y2 y3 y6 y7 y8 (n) (came) (MV) (0) f g z sp (upd rf (k).toNat (iI (RF (k)))) rc) := hD
              have hArf := AR_up (k := k) (v := RF (k)) hArf (by omega)
              generalize upd rf (k).toNat (iI (RF (k))) = rf at hP hD hArf
              refine pv_iinc (lv' := [(3, .int (iI (k + 1))), (0, .ref y0), (1, .int (iI (x))), (2, .int (iI (fa F n (rp + 1))))]) hx hb dX1_takeOut_65 hl (k := 3) rfl (by decide) rfl (fun ls hl => ?_)
              refine lv_goto (tgt := 34) hx hb dX1_takeOut_68 (by decide) ?_
              exact ih (k + 1) (_) _ _ ls (by omega) (by omega) (fun j h0 h1 => by unfold uI; rcases (show j = k ∨ j < k by omega) with z | z; (rw [if_pos z, z]; unfold sendF; rw [if_neg c_51]); (rw [if_neg (by omega)]; exact hRa j h0 z)) (fun j h0 h1 => by unfold uI; rw [if_neg (by omega)]; exact hRb j (by omega) h1) ⟨f, g, z, sp, rf, rc, hAf, hAg, hAz, hAsp, hArf, hArc, hP, hD.weaken (fun _ _ _ h => hmb _ h)⟩ hS (lv_sub hl [1, 2, 3, 0] rfl)
            · -- 51f
              refine lv_iload_n hx hb dX1_takeOut_54 rfl (lv_at hl 2 rfl) ?_
              refine lv_goto (tgt := 64) hx hb dX1_takeOut_55 (by decide) ?_
              refine pv_iast (i := k) (v := fa F n (rp + 1)) hx hb hK hP hD hS 5 0 rfl rfl (by omega) (by decide) dX1_takeOut_64 (fun H locs hP hD hS => ?_)
              have hP : va_P D vwCl (W1 cI cZ y0 y1 y2 y3 y6 y7 y8 (n) (came) (MV) (0) f g z sp (upd rf (k).toNat (iI (fa F n (rp + 1)))) rc) H := hP
              have hD : va_D (mM y0 y1 y2 y3 y6 y7 y8) (W1 cI cZ y0 y1 y2 y3 y6 y7 y8 (n) (came) (MV) (0) f g z sp (upd rf (k).toNat (iI (fa F n (rp + 1)))) rc) := hD
              have hArf := AR_up (k := k) (v := fa F n (rp + 1)) hArf (by omega)
              generalize upd rf (k).toNat (iI (fa F n (rp + 1))) = rf at hP hD hArf
              refine pv_iinc (lv' := [(3, .int (iI (k + 1))), (0, .ref y0), (1, .int (iI (x))), (2, .int (iI (fa F n (rp + 1))))]) hx hb dX1_takeOut_65 hl (k := 3) rfl (by decide) rfl (fun ls hl => ?_)
              refine lv_goto (tgt := 34) hx hb dX1_takeOut_68 (by decide) ?_
              exact ih (k + 1) (_) _ _ ls (by omega) (by omega) (fun j h0 h1 => by unfold uI; rcases (show j = k ∨ j < k by omega) with z | z; (rw [if_pos z, z]; unfold sendF; rw [if_pos c_51]); (rw [if_neg (by omega)]; exact hRa j h0 z)) (fun j h0 h1 => by unfold uI; rw [if_neg (by omega)]; exact hRb j (by omega) h1) ⟨f, g, z, sp, rf, rc, hAf, hAg, hAz, hAsp, hArf, hArc, hP, hD.weaken (fun _ _ _ h => hmb _ h)⟩ hS (lv_sub hl [1, 2, 3, 0] rfl)
      exact hloop34 ((4 : Int).toNat + 1) (0) (RF) _ _ ls (by omega) (by omega) (fun j h0 h1 => absurd h1 (by omega)) (fun j h0 h1 => rfl) ⟨f, g, z, sp, rf, rc, hAf, hAg, hAz, hAsp, hArf, hArc, hP, hD.weaken (fun _ _ _ h => hmb _ h)⟩ hS (lv_sub hl [2, 3, 1, 0] rfl)
    · exact absurd c_21 (by omega)
set_option maxHeartbeats 4000000 in
set_option maxRecDepth 100000 in
theorem d_M_takeOut (l : Launch) (D : va_G) (cI cZ : ClassId) (base st : Nat) (Z : Nat → Nat) (y0 y1 y2 y3 y6 y7 y8 : Nat) {n came MV th : Int} {F Gp SP RF RC : Int → Int} (x : Int) (hxr : (-2147483648 ≤ x ∧ x ≤ 2147483647)) (hrp : PL F n x (-1)) : mu_M l yX1_takeOut wsX1_takeOut ({ frames := 1, cells := 0, slots := 0, locals := 21 } : Room) [.ref y0, .int (iI (x))] (AP D cI cZ base st Z y0 y1 y2 y3 y6 y7 y8 n came MV th F Gp SP RF RC) (some (.int (iI (0)))) (fun H => MA D cI cZ base y0 y1 y2 y3 y6 y7 y8 (n) (came) (MV) (1) (F) (Gp) (SP) (RF) (RC) H) (mM y0 y1 y2 y3 y6 y7 y8) := by
  refine mu_of (cc := cX1_takeOut) (maxL := 4) (ret := (some .int)) (own := RX1) (by decide) rfl rfl (Nat.le_of_ble_eq_true rfl) ?_
  intro p e s m below meth c ls B hCP hl hS
  obtain ⟨hx, hb, hml, hr, hts, hown, hlocks⟩ := B
  obtain ⟨hSWs, G, ZN, hGM, hMI, hMW⟩ := id hCP
  obtain ⟨hK, hZL, ⟨hstb, xs, hXL, hAL⟩, hTW⟩ := id hSWs
  obtain ⟨f, g, z, sp, rf, rc, hAf, hAg, hAz, hAsp, hArf, hArc, hP, hDb⟩ := id hMW
  have hD := MW_mD hDb
  have hmb := mM_b hDb
  have hbl := MW_lt hMW
  have hSW0 := hSWs
  have hl : lv_has ls 4 [(0, .ref y0), (1, .int (iI (x)))] := hl
  have hin : ∀ w ∈ u_ws RX1 TX1 10, w ∈ wsX1_takeOut := by decide +kernel
  have q_thrown := hts (.fieldLink RX1 29 "ShelfMarksModel" "thrown" "I") (by decide +kernel)
  refine lv_aload_n hx hb dX1_takeOut_0 rfl (lv_at hl 0 rfl) ?_
  refine lv_aload_n hx hb dX1_takeOut_1 rfl (lv_at hl 0 rfl) ?_
  refine lv_iload_n hx hb dX1_takeOut_2 rfl (lv_at hl 1 rfl) ?_
  have hCP : MP D cI cZ base st Z y0 y1 y2 y3 y6 y7 y8 (n) (came) (MV) (th) (F) (G) (ZN) (SP) (RF) (RC) s s.heap := ⟨hSW0.behind hbl hmb hS, ⟨f, g, z, sp, rf, rc, hAf, hAg, hAz, hAsp, hArf, hArc, hP, hD.weaken (fun _ _ _ h => hmb _ h)⟩⟩
  refine pu_callV (v := 0) (As := [.int (iI (x))]) (rest := [.ref y0]) MP_mv ⟨hx, hb, hml, hown, hts⟩ (c_M_known l D cI cZ base st Z y0 y1 y2 y3 y6 y7 y8 hMI x hxr 0 (kn_0 hMI hrp).symm) (cwV 1 hts gX1_takeOut_X1_known rfl rfl rfl (by decide +kernel) ⟨(Nat.le_of_ble_eq_true rfl), (Nat.le_of_ble_eq_true rfl)⟩) hCP (MP_rc hCP) rfl rfl hl.1 (Nat.le_of_ble_eq_true rfl) dX1_takeOut_3 ⟨Nat.zero_le _, Nat.zero_le _⟩ ?_
  refine pv_if_eq (tgt := 13) hx hb dX1_takeOut_6 (by decide) (by omega) (fun c_6 => ?_) (fun c_6 => ?_)
  · -- 6t
    refine pv_iconst hx hb dX1_takeOut_13 ?_
    refine va_put (D := D) (ci := 1) (v := .int (iI (1))) (ty := .int) (C := RX1) (T := TX1) (N := 10) hx hb hts hin tyX1 tyX1_ok nmX1 hown hK hP hD hS 0 rfl rfl 9 (by decide) q_thrown (fun _ h9 => h9) rfl (by decide +kernel) rfl rfl (Nat.le_of_ble_eq_true rfl) dX1_takeOut_14 (fun H locs hP hD hS => ?_)
    have hP : va_P D vwCl (W1 cI cZ y0 y1 y2 y3 y6 y7 y8 (n) (came) (MV) (1) f g z sp rf rc) H := hP
    have hD : va_D (mM y0 y1 y2 y3 y6 y7 y8) (W1 cI cZ y0 y1 y2 y3 y6 y7 y8 (n) (came) (MV) (1) f g z sp rf rc) := hD
    refine lv_aload_n hx hb dX1_takeOut_17 rfl (lv_at hl 0 rfl) ?_
    refine va_get (D := D) (ci := 1) (v := .int (iI (1))) (C := RX1) (T := TX1) (N := 10) hx hb hts hin hown hK hP 0 rfl rfl 9 (by decide) q_thrown (fun _ h9 => h9) rfl dX1_takeOut_18 ?_
    refine pv_if_le (tgt := 26) hx hb dX1_takeOut_21 (by decide) (by omega) (fun c_21 => ?_) (fun c_21 => ?_)
    · exact absurd c_21 (by omega)
    · -- 21f
      refine pv_iconst hx hb dX1_takeOut_24 ?_
      exact mu_iret hx hb hr hlocks hS dX1_takeOut_25 (by rfl) ⟨G, ZN, hGM, hMI, ⟨f, g, z, sp, rf, rc, hAf, hAg, hAz, hAsp, hArf, hArc, hP, hD.weaken (fun _ _ _ h => hmb _ h)⟩⟩
  · exact absurd c_6 (by omega)
set_option maxHeartbeats 4000000 in
set_option maxRecDepth 100000 in
theorem c_M_carry (l : Launch) (D : va_G) (cI cZ : ClassId) (base st : Nat) (Z : Nat → Nat) (y0 y1 y2 y3 y6 y7 y8 : Nat) {n came MV th : Int} {F Gp SP RF RC : Int → Int} (hn : 0 ≤ n ∧ n ≤ 60) (hF : ∀ k : Int, 0 ≤ k → k < n → 0 ≤ F k ∧ F k < 200) (x : Int) (hxr : (-2147483648 ≤ x ∧ x ≤ 2147483647)) (rp : Int) (hrp : PL F n x rp) (h0 : 0 ≤ rp) (hFi : ∀ i j : Int, 0 ≤ i → i < n → 0 ≤ j → j < n → F i = F j → i = j) (hG : ∀ k : Int, 0 ≤ k → k < n → 0 ≤ Gp k ∧ Gp k ≤ 255) (hs : SD Gp n) (y : Int) (hyr : (-2147483648 ≤ y ∧ y ≤ 2147483647)) (ro : Int) (hro : PL F n y ro) (h1 : 0 ≤ ro) (hne : x ≠ y) (rq : Int) (hrq : PL (remF F rp) (n - 1) y rq) (h2 : 0 ≤ rq) (G2 : Int → Int) (dm : Int) (SP2 : Int → Int) (hPT : PT (remF Gp rp) (n - 1) (rq + 1) SP G2 dm SP2) : mu_M l yX1_carry wsX1_carry ({ frames := 3, cells := 0, slots := 0, locals := 75 } : Room) [.ref y0, .int (iI (x)), .int (iI (y))] (AP D cI cZ base st Z y0 y1 y2 y3 y6 y7 y8 n came MV th F Gp SP RF RC) (some (.int (iI (G2 (rq + 1))))) (fun H => MA D cI cZ base y0 y1 y2 y3 y6 y7 y8 (n - 1 + 1) (came) (MV + dm) (0) (insF (remF F rp) (rq + 1) x) (G2) (SP2) (RF) (RC) H) (mM y0 y1 y2 y3 y6 y7 y8) := by
  refine mu_of (cc := cX1_carry) (maxL := 3) (ret := (some .int)) (own := RX1) (by decide) rfl rfl (Nat.le_of_ble_eq_true rfl) ?_
  intro p e s m below meth c ls B hCP hl hS
  obtain ⟨hx, hb, hml, hr, hts, hown, hlocks⟩ := B
  obtain ⟨hSWs, G, ZN, hGM, hMI, hMW⟩ := id hCP
  obtain ⟨hK, hZL, ⟨hstb, xs, hXL, hAL⟩, hTW⟩ := id hSWs
  obtain ⟨f, g, z, sp, rf, rc, hAf, hAg, hAz, hAsp, hArf, hArc, hP, hDb⟩ := id hMW
  have hD := MW_mD hDb
  have hmb := mM_b hDb
  have hbl := MW_lt hMW
  have hSW0 := hSWs
  have hl : lv_has ls 3 [(0, .ref y0), (1, .int (iI (x))), (2, .int (iI (y)))] := hl
  have hin : ∀ w ∈ u_ws RX1 TX1 10, w ∈ wsX1_carry := by decide +kernel
  have q_marks := hts (.fieldLink RX1 13 "ShelfMarksModel" "marks" "[I") (by decide +kernel)
  have q_thrown := hts (.fieldLink RX1 29 "ShelfMarksModel" "thrown" "I") (by decide +kernel)
  obtain ⟨hx1, hx2, hx3⟩ := PL_p hrp h0
  have hgx : G x = Gp rp := by rw [← hx3]; exact hGM rp hx1 hx2
  have hxx := PL_x hF h0 hrp
  refine lv_aload_n hx hb dX1_carry_0 rfl (lv_at hl 0 rfl) ?_
  refine lv_aload_n hx hb dX1_carry_1 rfl (lv_at hl 0 rfl) ?_
  refine lv_iload_n hx hb dX1_carry_2 rfl (lv_at hl 1 rfl) ?_
  have hCP : MP D cI cZ base st Z y0 y1 y2 y3 y6 y7 y8 (n) (came) (MV) (th) (F) (G) (ZN) (SP) (RF) (RC) s s.heap := ⟨hSW0.behind hbl hmb hS, ⟨f, g, z, sp, rf, rc, hAf, hAg, hAz, hAsp, hArf, hArc, hP, hD.weaken (fun _ _ _ h => hmb _ h)⟩⟩
  refine pu_callV (v := 1) (As := [.int (iI (x))]) (rest := [.ref y0]) MP_mv ⟨hx, hb, hml, hown, hts⟩ (c_M_known l D cI cZ base st Z y0 y1 y2 y3 y6 y7 y8 hMI x hxr 1 (kn_1 hMI hF hrp h0).symm) (cwV 1 hts gX1_carry_X1_known rfl rfl rfl (by decide +kernel) ⟨(Nat.le_of_ble_eq_true rfl), (Nat.le_of_ble_eq_true rfl)⟩) hCP (MP_rc hCP) rfl rfl hl.1 (Nat.le_of_ble_eq_true rfl) dX1_carry_3 ⟨Nat.zero_le _, Nat.zero_le _⟩ ?_
  refine pv_if_eq (tgt := 17) hx hb dX1_carry_6 (by decide) (by omega) (fun c_6 => ?_) (fun c_6 => ?_)
  · exact absurd c_6 (by omega)
  · -- 6f
    refine lv_aload_n hx hb dX1_carry_9 rfl (lv_at hl 0 rfl) ?_
    refine lv_iload_n hx hb dX1_carry_10 rfl (lv_at hl 2 rfl) ?_
    have hCP : MP D cI cZ base st Z y0 y1 y2 y3 y6 y7 y8 (n) (came) (MV) (th) (F) (G) (ZN) (SP) (RF) (RC) s s.heap := ⟨hSW0.behind hbl hmb hS, ⟨f, g, z, sp, rf, rc, hAf, hAg, hAz, hAsp, hArf, hArc, hP, hD.weaken (fun _ _ _ h => hmb _ h)⟩⟩
    refine pu_callV (v := 1) (As := [.int (iI (y))]) (rest := [.ref y0]) MP_mv ⟨hx, hb, hml, hown, hts⟩ (c_M_known l D cI cZ base st Z y0 y1 y2 y3 y6 y7 y8 hMI y hyr 1 (kn_1 hMI hF hro h1).symm) (cwV 1 hts gX1_carry_X1_known rfl rfl rfl (by decide +kernel) ⟨(Nat.le_of_ble_eq_true rfl), (Nat.le_of_ble_eq_true rfl)⟩) hCP (MP_rc hCP) rfl rfl hl.1 (Nat.le_of_ble_eq_true rfl) dX1_carry_11 ⟨Nat.zero_le _, Nat.zero_le _⟩ ?_
    refine pv_if_ne (tgt := 21) hx hb dX1_carry_14 (by decide) (by omega) (fun c_14 => ?_) (fun c_14 => ?_)
    · -- 14t
      refine lv_iload_n hx hb dX1_carry_21 rfl (lv_at hl 1 rfl) ?_
      refine lv_iload_n hx hb dX1_carry_22 rfl (lv_at hl 2 rfl) ?_
      refine pv_icmp_ne (tgt := 30) hx hb dX1_carry_23 (by decide) (by omega) (fun c_23 => ?_) (fun c_23 => ?_)
      · -- 23t
        refine pv_iconst hx hb dX1_carry_30 ?_
        refine va_put (D := D) (ci := 1) (v := .int (iI (0))) (ty := .int) (C := RX1) (T := TX1) (N := 10) hx hb hts hin tyX1 tyX1_ok nmX1 hown hK hP hD hS 0 rfl rfl 9 (by decide) q_thrown (fun _ h9 => h9) rfl (by decide +kernel) rfl rfl (Nat.le_of_ble_eq_true rfl) dX1_carry_31 (fun H locs hP hD hS => ?_)
        have hP : va_P D vwCl (W1 cI cZ y0 y1 y2 y3 y6 y7 y8 (n) (came) (MV) (0) f g z sp rf rc) H := hP
        have hD : va_D (mM y0 y1 y2 y3 y6 y7 y8) (W1 cI cZ y0 y1 y2 y3 y6 y7 y8 (n) (came) (MV) (0) f g z sp rf rc) := hD
        refine lv_aload_n hx hb dX1_carry_34 rfl (lv_at hl 0 rfl) ?_
        refine va_get (D := D) (ci := 1) (v := .int (iI (0))) (C := RX1) (T := TX1) (N := 10) hx hb hts hin hown hK hP 0 rfl rfl 9 (by decide) q_thrown (fun _ h9 => h9) rfl dX1_carry_35 ?_
        refine pv_if_le (tgt := 43) hx hb dX1_carry_38 (by decide) (by omega) (fun c_38 => ?_) (fun c_38 => ?_)
        · -- 38t
          refine lv_aload_n hx hb dX1_carry_43 rfl (lv_at hl 0 rfl) ?_
          refine lv_iload_n hx hb dX1_carry_44 rfl (lv_at hl 1 rfl) ?_
          have hCP : MP D cI cZ base st Z y0 y1 y2 y3 y6 y7 y8 (n) (came) (MV) (0) (F) (G) (ZN) (SP) (RF) (RC) s H := ⟨hSW0.behind hbl hmb hS, ⟨f, g, z, sp, rf, rc, hAf, hAg, hAz, hAsp, hArf, hArc, hP, hD.weaken (fun _ _ _ h => hmb _ h)⟩⟩
          refine mu_callV (As := [.int (iI (x))]) (rest := []) MP_mv ⟨hx, hb, hml, hown, hts⟩ (c_M_lifts l D cI cZ base st Z y0 y1 y2 y3 y6 y7 y8 hn hF x hxr rp hrp h0) (cwV 1 hts gX1_carry_X1_lifts rfl rfl rfl (by decide +kernel) ⟨(Nat.le_of_ble_eq_true rfl), (Nat.le_of_ble_eq_true rfl)⟩) hCP (MP_rc hCP) rfl rfl hl.1 (Nat.le_of_ble_eq_true rfl) dX1_carry_45 ⟨Nat.zero_le _, Nat.zero_le _⟩ hS (fun _ h => h) (fun H locs hC9 hz9 hk9 hS => ?_)
          have hC9 : MW D cI cZ base y0 y1 y2 y3 y6 y7 y8 (n - 1) (came) (MV) (0) (remF F rp) (G) (ZN) (SP) (RF) (RC) H := hC9
          obtain ⟨f, g, z, sp, rf, rc, hAf, hAg, hAz, hAsp, hArf, hArc, hP, hDb⟩ := hC9
          have hD := MW_mD hDb
          refine lv_aload_n hx hb dX1_carry_48 rfl (lv_at hl 0 rfl) ?_
          refine lv_iload_n hx hb dX1_carry_49 rfl (lv_at hl 1 rfl) ?_
          refine lv_aload_n hx hb dX1_carry_50 rfl (lv_at hl 0 rfl) ?_
          refine lv_iload_n hx hb dX1_carry_51 rfl (lv_at hl 2 rfl) ?_
          have hF1 := rem_rg (P := fun z => 0 ≤ z ∧ z < 200) hF ⟨hx1, hx2⟩
          have hCP : MP D cI cZ base st Z y0 y1 y2 y3 y6 y7 y8 (n - 1) (came) (MV) (0) (remF F rp) (G) (ZN) (SP) (RF) (RC) s H := ⟨hSW0.behind hbl hmb hS, ⟨f, g, z, sp, rf, rc, hAf, hAg, hAz, hAsp, hArf, hArc, hP, hD.weaken (fun _ _ _ h => hmb _ h)⟩⟩
          refine pu_callV (v := rq) (As := [.int (iI (y))]) (rest := [.int (iI (x)), .ref y0]) MP_mv ⟨hx, hb, hml, hown, hts⟩ (c_M_place l D cI cZ base st Z y0 y1 y2 y3 y6 y7 y8 (by omega) hF1 y hyr rq hrq h2) (cwV 1 hts gX1_carry_X1_place rfl rfl rfl (by decide +kernel) ⟨(Nat.le_of_ble_eq_true rfl), (Nat.le_of_ble_eq_true rfl)⟩) hCP (MP_rc hCP) rfl rfl hl.1 (Nat.le_of_ble_eq_true rfl) dX1_carry_52 ⟨Nat.zero_le _, Nat.zero_le _⟩ ?_
          refine pv_iconst hx hb dX1_carry_55 ?_
          refine pv_iadd hx hb dX1_carry_56 ?_
          have hrq1 := PL_p hrq h2
          have hCP : MP D cI cZ base st Z y0 y1 y2 y3 y6 y7 y8 (n - 1) (came) (MV) (0) (remF F rp) (G) (ZN) (SP) (RF) (RC) s H := ⟨hSW0.behind hbl hmb hS, ⟨f, g, z, sp, rf, rc, hAf, hAg, hAz, hAsp, hArf, hArc, hP, hD.weaken (fun _ _ _ h => hmb _ h)⟩⟩
          refine mu_callV (As := [.int (iI (x)), .int (iI ((rq) + (1)))]) (rest := []) MP_mv ⟨hx, hb, hml, hown, hts⟩ (c_M_puts l D cI cZ base st Z y0 y1 y2 y3 y6 y7 y8 (by omega) hF1 (rem_inj hFi ⟨hx1, hx2⟩) (remF Gp rp) (rem_gm hGM ⟨hx1, hx2⟩) (rem_rg (P := fun z => 0 ≤ z ∧ z ≤ 255) hG ⟨hx1, hx2⟩) (rem_SD hs ⟨hx1, hx2⟩) x hxx (by rw [← hx3]; exact rem_ne hFi ⟨hx1, hx2⟩) (rq + 1) (by omega) G2 dm SP2 hPT) (cwV 2 hts gX1_carry_X1_puts rfl rfl rfl (by decide +kernel) ⟨(Nat.le_of_ble_eq_true rfl), (Nat.le_of_ble_eq_true rfl)⟩) hCP (MP_rc hCP) rfl rfl hl.1 (Nat.le_of_ble_eq_true rfl) dX1_carry_57 ⟨Nat.zero_le _, Nat.zero_le _⟩ hS (fun _ h => h) (fun H locs hC9 hz9 hk9 hS => ?_)
          obtain ⟨G9, hG9, hC9⟩ := hC9
          have hC9 : MW D cI cZ base y0 y1 y2 y3 y6 y7 y8 (n - 1 + 1) (came) (MV + dm) (0) (insF (remF F rp) (rq + 1) x) (G9) (ZN) (SP2) (RF) (RC) H := hC9
          obtain ⟨f, g, z, sp, rf, rc, hAf, hAg, hAz, hAsp, hArf, hArc, hP, hDb⟩ := hC9
          have hD := MW_mD hDb
          refine lv_aload_n hx hb dX1_carry_60 rfl (lv_at hl 0 rfl) ?_
          refine va_get (D := D) (ci := 1) (v := .ref y2) (C := RX1) (T := TX1) (N := 10) hx hb hts hin hown hK hP 0 rfl rfl 2 (by decide) q_marks (fun _ h9 => h9) rfl dX1_carry_61 ?_
          have hgx2 : G9 x = G2 (rq + 1) := by rw [← hG9 (rq + 1) (by omega) (by omega)]; unfold insF; rw [if_neg (by omega), if_pos rfl]
          refine lv_iload_n hx hb dX1_carry_64 rfl (lv_at hl 1 rfl) ?_
          refine pv_iald (i := x) (v := G2 (rq + 1)) hx hb hK hP 2 0 rfl rfl (by omega) (by decide) ((hAg _ (by omega) (by omega)).trans (congrArg iI hgx2)) dX1_carry_65 ?_
          exact mu_iret hx hb hr hlocks hS dX1_carry_66 (by rfl) ⟨G9, ZN, hG9, MI_carry hMI ⟨hx1, hx2, hx3⟩ (by omega), ⟨f, g, z, sp, rf, rc, hAf, hAg, hAz, hAsp, hArf, hArc, hP, hD.weaken (fun _ _ _ h => hmb _ h)⟩⟩
        · exact absurd c_38 (by omega)
      · exact absurd c_23 (by omega)
    · exact absurd c_14 (by omega)
set_option maxHeartbeats 4000000 in
set_option maxRecDepth 100000 in
theorem d_M_carry (l : Launch) (D : va_G) (cI cZ : ClassId) (base st : Nat) (Z : Nat → Nat) (y0 y1 y2 y3 y6 y7 y8 : Nat) {n came MV th : Int} {F Gp SP RF RC : Int → Int} (x : Int) (hxr : (-2147483648 ≤ x ∧ x ≤ 2147483647)) (hrp : PL F n x (-1)) (y : Int) : mu_M l yX1_carry wsX1_carry ({ frames := 1, cells := 0, slots := 0, locals := 21 } : Room) [.ref y0, .int (iI (x)), .int (iI (y))] (AP D cI cZ base st Z y0 y1 y2 y3 y6 y7 y8 n came MV th F Gp SP RF RC) (some (.int (iI (0)))) (fun H => MA D cI cZ base y0 y1 y2 y3 y6 y7 y8 (n) (came) (MV) (1) (F) (Gp) (SP) (RF) (RC) H) (mM y0 y1 y2 y3 y6 y7 y8) := by
  refine mu_of (cc := cX1_carry) (maxL := 3) (ret := (some .int)) (own := RX1) (by decide) rfl rfl (Nat.le_of_ble_eq_true rfl) ?_
  intro p e s m below meth c ls B hCP hl hS
  obtain ⟨hx, hb, hml, hr, hts, hown, hlocks⟩ := B
  obtain ⟨hSWs, G, ZN, hGM, hMI, hMW⟩ := id hCP
  obtain ⟨hK, hZL, ⟨hstb, xs, hXL, hAL⟩, hTW⟩ := id hSWs
  obtain ⟨f, g, z, sp, rf, rc, hAf, hAg, hAz, hAsp, hArf, hArc, hP, hDb⟩ := id hMW
  have hD := MW_mD hDb
  have hmb := mM_b hDb
  have hbl := MW_lt hMW
  have hSW0 := hSWs
  have hl : lv_has ls 3 [(0, .ref y0), (1, .int (iI (x))), (2, .int (iI (y)))] := hl
  have hin : ∀ w ∈ u_ws RX1 TX1 10, w ∈ wsX1_carry := by decide +kernel
  have q_thrown := hts (.fieldLink RX1 29 "ShelfMarksModel" "thrown" "I") (by decide +kernel)
  refine lv_aload_n hx hb dX1_carry_0 rfl (lv_at hl 0 rfl) ?_
  refine lv_aload_n hx hb dX1_carry_1 rfl (lv_at hl 0 rfl) ?_
  refine lv_iload_n hx hb dX1_carry_2 rfl (lv_at hl 1 rfl) ?_
  have hCP : MP D cI cZ base st Z y0 y1 y2 y3 y6 y7 y8 (n) (came) (MV) (th) (F) (G) (ZN) (SP) (RF) (RC) s s.heap := ⟨hSW0.behind hbl hmb hS, ⟨f, g, z, sp, rf, rc, hAf, hAg, hAz, hAsp, hArf, hArc, hP, hD.weaken (fun _ _ _ h => hmb _ h)⟩⟩
  refine pu_callV (v := 0) (As := [.int (iI (x))]) (rest := [.ref y0]) MP_mv ⟨hx, hb, hml, hown, hts⟩ (c_M_known l D cI cZ base st Z y0 y1 y2 y3 y6 y7 y8 hMI x hxr 0 (kn_0 hMI hrp).symm) (cwV 1 hts gX1_carry_X1_known rfl rfl rfl (by decide +kernel) ⟨(Nat.le_of_ble_eq_true rfl), (Nat.le_of_ble_eq_true rfl)⟩) hCP (MP_rc hCP) rfl rfl hl.1 (Nat.le_of_ble_eq_true rfl) dX1_carry_3 ⟨Nat.zero_le _, Nat.zero_le _⟩ ?_
  refine pv_if_eq (tgt := 17) hx hb dX1_carry_6 (by decide) (by omega) (fun c_6 => ?_) (fun c_6 => ?_)
  · -- 6t
    refine pv_iconst hx hb dX1_carry_17 ?_
    refine lv_goto (tgt := 31) hx hb dX1_carry_18 (by decide) ?_
    refine va_put (D := D) (ci := 1) (v := .int (iI (1))) (ty := .int) (C := RX1) (T := TX1) (N := 10) hx hb hts hin tyX1 tyX1_ok nmX1 hown hK hP hD hS 0 rfl rfl 9 (by decide) q_thrown (fun _ h9 => h9) rfl (by decide +kernel) rfl rfl (Nat.le_of_ble_eq_true rfl) dX1_carry_31 (fun H locs hP hD hS => ?_)
    have hP : va_P D vwCl (W1 cI cZ y0 y1 y2 y3 y6 y7 y8 (n) (came) (MV) (1) f g z sp rf rc) H := hP
    have hD : va_D (mM y0 y1 y2 y3 y6 y7 y8) (W1 cI cZ y0 y1 y2 y3 y6 y7 y8 (n) (came) (MV) (1) f g z sp rf rc) := hD
    refine lv_aload_n hx hb dX1_carry_34 rfl (lv_at hl 0 rfl) ?_
    refine va_get (D := D) (ci := 1) (v := .int (iI (1))) (C := RX1) (T := TX1) (N := 10) hx hb hts hin hown hK hP 0 rfl rfl 9 (by decide) q_thrown (fun _ h9 => h9) rfl dX1_carry_35 ?_
    refine pv_if_le (tgt := 43) hx hb dX1_carry_38 (by decide) (by omega) (fun c_38 => ?_) (fun c_38 => ?_)
    · exact absurd c_38 (by omega)
    · -- 38f
      refine pv_iconst hx hb dX1_carry_41 ?_
      exact mu_iret hx hb hr hlocks hS dX1_carry_42 (by rfl) ⟨G, ZN, hGM, hMI, ⟨f, g, z, sp, rf, rc, hAf, hAg, hAz, hAsp, hArf, hArc, hP, hD.weaken (fun _ _ _ h => hmb _ h)⟩⟩
  · exact absurd c_6 (by omega)
set_option maxHeartbeats 4000000 in
set_option maxRecDepth 100000 in
theorem d_M_carry2 (l : Launch) (D : va_G) (cI cZ : ClassId) (base st : Nat) (Z : Nat → Nat) (y0 y1 y2 y3 y6 y7 y8 : Nat) {n came MV th : Int} {F Gp SP RF RC : Int → Int} (hn : 0 ≤ n ∧ n ≤ 60) (hF : ∀ k : Int, 0 ≤ k → k < n → 0 ≤ F k ∧ F k < 200) (x : Int) (hxr : (-2147483648 ≤ x ∧ x ≤ 2147483647)) (rp : Int) (hrp : PL F n x rp) (h0 : 0 ≤ rp) (y : Int) (hyr : (-2147483648 ≤ y ∧ y ≤ 2147483647)) (hro : PL F n y (-1)) : mu_M l yX1_carry wsX1_carry ({ frames := 1, cells := 0, slots := 0, locals := 21 } : Room) [.ref y0, .int (iI (x)), .int (iI (y))] (AP D cI cZ base st Z y0 y1 y2 y3 y6 y7 y8 n came MV th F Gp SP RF RC) (some (.int (iI (0)))) (fun H => MA D cI cZ base y0 y1 y2 y3 y6 y7 y8 (n) (came) (MV) (1) (F) (Gp) (SP) (RF) (RC) H) (mM y0 y1 y2 y3 y6 y7 y8) := by
  refine mu_of (cc := cX1_carry) (maxL := 3) (ret := (some .int)) (own := RX1) (by decide) rfl rfl (Nat.le_of_ble_eq_true rfl) ?_
  intro p e s m below meth c ls B hCP hl hS
  obtain ⟨hx, hb, hml, hr, hts, hown, hlocks⟩ := B
  obtain ⟨hSWs, G, ZN, hGM, hMI, hMW⟩ := id hCP
  obtain ⟨hK, hZL, ⟨hstb, xs, hXL, hAL⟩, hTW⟩ := id hSWs
  obtain ⟨f, g, z, sp, rf, rc, hAf, hAg, hAz, hAsp, hArf, hArc, hP, hDb⟩ := id hMW
  have hD := MW_mD hDb
  have hmb := mM_b hDb
  have hbl := MW_lt hMW
  have hSW0 := hSWs
  have hl : lv_has ls 3 [(0, .ref y0), (1, .int (iI (x))), (2, .int (iI (y)))] := hl
  have hin : ∀ w ∈ u_ws RX1 TX1 10, w ∈ wsX1_carry := by decide +kernel
  have q_thrown := hts (.fieldLink RX1 29 "ShelfMarksModel" "thrown" "I") (by decide +kernel)
  refine lv_aload_n hx hb dX1_carry_0 rfl (lv_at hl 0 rfl) ?_
  refine lv_aload_n hx hb dX1_carry_1 rfl (lv_at hl 0 rfl) ?_
  refine lv_iload_n hx hb dX1_carry_2 rfl (lv_at hl 1 rfl) ?_
  have hCP : MP D cI cZ base st Z y0 y1 y2 y3 y6 y7 y8 (n) (came) (MV) (th) (F) (G) (ZN) (SP) (RF) (RC) s s.heap := ⟨hSW0.behind hbl hmb hS, ⟨f, g, z, sp, rf, rc, hAf, hAg, hAz, hAsp, hArf, hArc, hP, hD.weaken (fun _ _ _ h => hmb _ h)⟩⟩
  refine pu_callV (v := 1) (As := [.int (iI (x))]) (rest := [.ref y0]) MP_mv ⟨hx, hb, hml, hown, hts⟩ (c_M_known l D cI cZ base st Z y0 y1 y2 y3 y6 y7 y8 hMI x hxr 1 (kn_1 hMI hF hrp h0).symm) (cwV 1 hts gX1_carry_X1_known rfl rfl rfl (by decide +kernel) ⟨(Nat.le_of_ble_eq_true rfl), (Nat.le_of_ble_eq_true rfl)⟩) hCP (MP_rc hCP) rfl rfl hl.1 (Nat.le_of_ble_eq_true rfl) dX1_carry_3 ⟨Nat.zero_le _, Nat.zero_le _⟩ ?_
  refine pv_if_eq (tgt := 17) hx hb dX1_carry_6 (by decide) (by omega) (fun c_6 => ?_) (fun c_6 => ?_)
  · exact absurd c_6 (by omega)
  · -- 6f
    refine lv_aload_n hx hb dX1_carry_9 rfl (lv_at hl 0 rfl) ?_
    refine lv_iload_n hx hb dX1_carry_10 rfl (lv_at hl 2 rfl) ?_
    have hCP : MP D cI cZ base st Z y0 y1 y2 y3 y6 y7 y8 (n) (came) (MV) (th) (F) (G) (ZN) (SP) (RF) (RC) s s.heap := ⟨hSW0.behind hbl hmb hS, ⟨f, g, z, sp, rf, rc, hAf, hAg, hAz, hAsp, hArf, hArc, hP, hD.weaken (fun _ _ _ h => hmb _ h)⟩⟩
    refine pu_callV (v := 0) (As := [.int (iI (y))]) (rest := [.ref y0]) MP_mv ⟨hx, hb, hml, hown, hts⟩ (c_M_known l D cI cZ base st Z y0 y1 y2 y3 y6 y7 y8 hMI y hyr 0 (kn_0 hMI hro).symm) (cwV 1 hts gX1_carry_X1_known rfl rfl rfl (by decide +kernel) ⟨(Nat.le_of_ble_eq_true rfl), (Nat.le_of_ble_eq_true rfl)⟩) hCP (MP_rc hCP) rfl rfl hl.1 (Nat.le_of_ble_eq_true rfl) dX1_carry_11 ⟨Nat.zero_le _, Nat.zero_le _⟩ ?_
    refine pv_if_ne (tgt := 21) hx hb dX1_carry_14 (by decide) (by omega) (fun c_14 => ?_) (fun c_14 => ?_)
    · exact absurd c_14 (by omega)
    · -- 14f
      refine pv_iconst hx hb dX1_carry_17 ?_
      refine lv_goto (tgt := 31) hx hb dX1_carry_18 (by decide) ?_
      refine va_put (D := D) (ci := 1) (v := .int (iI (1))) (ty := .int) (C := RX1) (T := TX1) (N := 10) hx hb hts hin tyX1 tyX1_ok nmX1 hown hK hP hD hS 0 rfl rfl 9 (by decide) q_thrown (fun _ h9 => h9) rfl (by decide +kernel) rfl rfl (Nat.le_of_ble_eq_true rfl) dX1_carry_31 (fun H locs hP hD hS => ?_)
      have hP : va_P D vwCl (W1 cI cZ y0 y1 y2 y3 y6 y7 y8 (n) (came) (MV) (1) f g z sp rf rc) H := hP
      have hD : va_D (mM y0 y1 y2 y3 y6 y7 y8) (W1 cI cZ y0 y1 y2 y3 y6 y7 y8 (n) (came) (MV) (1) f g z sp rf rc) := hD
      refine lv_aload_n hx hb dX1_carry_34 rfl (lv_at hl 0 rfl) ?_
      refine va_get (D := D) (ci := 1) (v := .int (iI (1))) (C := RX1) (T := TX1) (N := 10) hx hb hts hin hown hK hP 0 rfl rfl 9 (by decide) q_thrown (fun _ h9 => h9) rfl dX1_carry_35 ?_
      refine pv_if_le (tgt := 43) hx hb dX1_carry_38 (by decide) (by omega) (fun c_38 => ?_) (fun c_38 => ?_)
      · exact absurd c_38 (by omega)
      · -- 38f
        refine pv_iconst hx hb dX1_carry_41 ?_
        exact mu_iret hx hb hr hlocks hS dX1_carry_42 (by rfl) ⟨G, ZN, hGM, hMI, ⟨f, g, z, sp, rf, rc, hAf, hAg, hAz, hAsp, hArf, hArc, hP, hD.weaken (fun _ _ _ h => hmb _ h)⟩⟩
set_option maxHeartbeats 4000000 in
set_option maxRecDepth 100000 in
theorem d_M_carry3 (l : Launch) (D : va_G) (cI cZ : ClassId) (base st : Nat) (Z : Nat → Nat) (y0 y1 y2 y3 y6 y7 y8 : Nat) {n came MV th : Int} {F Gp SP RF RC : Int → Int} (hn : 0 ≤ n ∧ n ≤ 60) (hF : ∀ k : Int, 0 ≤ k → k < n → 0 ≤ F k ∧ F k < 200) (x : Int) (hxr : (-2147483648 ≤ x ∧ x ≤ 2147483647)) (rp : Int) (hrp : PL F n x rp) (h0 : 0 ≤ rp) : mu_M l yX1_carry wsX1_carry ({ frames := 1, cells := 0, slots := 0, locals := 21 } : Room) [.ref y0, .int (iI (x)), .int (iI (x))] (AP D cI cZ base st Z y0 y1 y2 y3 y6 y7 y8 n came MV th F Gp SP RF RC) (some (.int (iI (0)))) (fun H => MA D cI cZ base y0 y1 y2 y3 y6 y7 y8 (n) (came) (MV) (2) (F) (Gp) (SP) (RF) (RC) H) (mM y0 y1 y2 y3 y6 y7 y8) := by
  refine mu_of (cc := cX1_carry) (maxL := 3) (ret := (some .int)) (own := RX1) (by decide) rfl rfl (Nat.le_of_ble_eq_true rfl) ?_
  intro p e s m below meth c ls B hCP hl hS
  obtain ⟨hx, hb, hml, hr, hts, hown, hlocks⟩ := B
  obtain ⟨hSWs, G, ZN, hGM, hMI, hMW⟩ := id hCP
  obtain ⟨hK, hZL, ⟨hstb, xs, hXL, hAL⟩, hTW⟩ := id hSWs
  obtain ⟨f, g, z, sp, rf, rc, hAf, hAg, hAz, hAsp, hArf, hArc, hP, hDb⟩ := id hMW
  have hD := MW_mD hDb
  have hmb := mM_b hDb
  have hbl := MW_lt hMW
  have hSW0 := hSWs
  have hl : lv_has ls 3 [(0, .ref y0), (1, .int (iI (x))), (2, .int (iI (x)))] := hl
  have hin : ∀ w ∈ u_ws RX1 TX1 10, w ∈ wsX1_carry := by decide +kernel
  have q_thrown := hts (.fieldLink RX1 29 "ShelfMarksModel" "thrown" "I") (by decide +kernel)
  refine lv_aload_n hx hb dX1_carry_0 rfl (lv_at hl 0 rfl) ?_
  refine lv_aload_n hx hb dX1_carry_1 rfl (lv_at hl 0 rfl) ?_
  refine lv_iload_n hx hb dX1_carry_2 rfl (lv_at hl 1 rfl) ?_
  have hCP : MP D cI cZ base st Z y0 y1 y2 y3 y6 y7 y8 (n) (came) (MV) (th) (F) (G) (ZN) (SP) (RF) (RC) s s.heap := ⟨hSW0.behind hbl hmb hS, ⟨f, g, z, sp, rf, rc, hAf, hAg, hAz, hAsp, hArf, hArc, hP, hD.weaken (fun _ _ _ h => hmb _ h)⟩⟩
  refine pu_callV (v := 1) (As := [.int (iI (x))]) (rest := [.ref y0]) MP_mv ⟨hx, hb, hml, hown, hts⟩ (c_M_known l D cI cZ base st Z y0 y1 y2 y3 y6 y7 y8 hMI x hxr 1 (kn_1 hMI hF hrp h0).symm) (cwV 1 hts gX1_carry_X1_known rfl rfl rfl (by decide +kernel) ⟨(Nat.le_of_ble_eq_true rfl), (Nat.le_of_ble_eq_true rfl)⟩) hCP (MP_rc hCP) rfl rfl hl.1 (Nat.le_of_ble_eq_true rfl) dX1_carry_3 ⟨Nat.zero_le _, Nat.zero_le _⟩ ?_
  refine pv_if_eq (tgt := 17) hx hb dX1_carry_6 (by decide) (by omega) (fun c_6 => ?_) (fun c_6 => ?_)
  · exact absurd c_6 (by omega)
  · -- 6f
    refine lv_aload_n hx hb dX1_carry_9 rfl (lv_at hl 0 rfl) ?_
    refine lv_iload_n hx hb dX1_carry_10 rfl (lv_at hl 2 rfl) ?_
    have hCP : MP D cI cZ base st Z y0 y1 y2 y3 y6 y7 y8 (n) (came) (MV) (th) (F) (G) (ZN) (SP) (RF) (RC) s s.heap := ⟨hSW0.behind hbl hmb hS, ⟨f, g, z, sp, rf, rc, hAf, hAg, hAz, hAsp, hArf, hArc, hP, hD.weaken (fun _ _ _ h => hmb _ h)⟩⟩
    refine pu_callV (v := 1) (As := [.int (iI (x))]) (rest := [.ref y0]) MP_mv ⟨hx, hb, hml, hown, hts⟩ (c_M_known l D cI cZ base st Z y0 y1 y2 y3 y6 y7 y8 hMI x hxr 1 (kn_1 hMI hF hrp h0).symm) (cwV 1 hts gX1_carry_X1_known rfl rfl rfl (by decide +kernel) ⟨(Nat.le_of_ble_eq_true rfl), (Nat.le_of_ble_eq_true rfl)⟩) hCP (MP_rc hCP) rfl rfl hl.1 (Nat.le_of_ble_eq_true rfl) dX1_carry_11 ⟨Nat.zero_le _, Nat.zero_le _⟩ ?_
    refine pv_if_ne (tgt := 21) hx hb dX1_carry_14 (by decide) (by omega) (fun c_14 => ?_) (fun c_14 => ?_)
    · -- 14t
      refine lv_iload_n hx hb dX1_carry_21 rfl (lv_at hl 1 rfl) ?_
      refine lv_iload_n hx hb dX1_carry_22 rfl (lv_at hl 2 rfl) ?_
      refine pv_icmp_ne (tgt := 30) hx hb dX1_carry_23 (by decide) (by omega) (fun c_23 => ?_) (fun c_23 => ?_)
      · exact absurd rfl c_23
      · -- 23f
        refine pv_iconst hx hb dX1_carry_26 ?_
        refine lv_goto (tgt := 31) hx hb dX1_carry_27 (by decide) ?_
        refine va_put (D := D) (ci := 1) (v := .int (iI (2))) (ty := .int) (C := RX1) (T := TX1) (N := 10) hx hb hts hin tyX1 tyX1_ok nmX1 hown hK hP hD hS 0 rfl rfl 9 (by decide) q_thrown (fun _ h9 => h9) rfl (by decide +kernel) rfl rfl (Nat.le_of_ble_eq_true rfl) dX1_carry_31 (fun H locs hP hD hS => ?_)
        have hP : va_P D vwCl (W1 cI cZ y0 y1 y2 y3 y6 y7 y8 (n) (came) (MV) (2) f g z sp rf rc) H := hP
        have hD : va_D (mM y0 y1 y2 y3 y6 y7 y8) (W1 cI cZ y0 y1 y2 y3 y6 y7 y8 (n) (came) (MV) (2) f g z sp rf rc) := hD
        refine lv_aload_n hx hb dX1_carry_34 rfl (lv_at hl 0 rfl) ?_
        refine va_get (D := D) (ci := 1) (v := .int (iI (2))) (C := RX1) (T := TX1) (N := 10) hx hb hts hin hown hK hP 0 rfl rfl 9 (by decide) q_thrown (fun _ h9 => h9) rfl dX1_carry_35 ?_
        refine pv_if_le (tgt := 43) hx hb dX1_carry_38 (by decide) (by omega) (fun c_38 => ?_) (fun c_38 => ?_)
        · exact absurd c_38 (by omega)
        · -- 38f
          refine pv_iconst hx hb dX1_carry_41 ?_
          exact mu_iret hx hb hr hlocks hS dX1_carry_42 (by rfl) ⟨G, ZN, hGM, hMI, ⟨f, g, z, sp, rf, rc, hAf, hAg, hAz, hAsp, hArf, hArc, hP, hD.weaken (fun _ _ _ h => hmb _ h)⟩⟩
    · exact absurd c_14 (by omega)
set_option maxHeartbeats 4000000 in
set_option maxRecDepth 100000 in
theorem c_M_size (l : Launch) (D : va_G) (cI cZ : ClassId) (base st : Nat) (Z : Nat → Nat) (y0 y1 y2 y3 y6 y7 y8 : Nat) {n came MV th : Int} {F Gp SP RF RC : Int → Int}  : mu_M l yX1_size wsX1_size ({ frames := 0, cells := 0, slots := 0, locals := 0 } : Room) [.ref y0] (AP D cI cZ base st Z y0 y1 y2 y3 y6 y7 y8 n came MV th F Gp SP RF RC) (some (.int (iI (n)))) (fun H => MA D cI cZ base y0 y1 y2 y3 y6 y7 y8 (n) (came) (MV) (0) (F) (Gp) (SP) (RF) (RC) H) (mM y0 y1 y2 y3 y6 y7 y8) := by
  refine mu_of (cc := cX1_size) (maxL := 1) (ret := (some .int)) (own := RX1) (by decide) rfl rfl (Nat.le_of_ble_eq_true rfl) ?_
  intro p e s m below meth c ls B hCP hl hS
  obtain ⟨hx, hb, hml, hr, hts, hown, hlocks⟩ := B
  obtain ⟨hSWs, G, ZN, hGM, hMI, hMW⟩ := id hCP
  obtain ⟨hK, hZL, ⟨hstb, xs, hXL, hAL⟩, hTW⟩ := id hSWs
  obtain ⟨f, g, z, sp, rf, rc, hAf, hAg, hAz, hAsp, hArf, hArc, hP, hDb⟩ := id hMW
  have hD := MW_mD hDb
  have hmb := mM_b hDb
  have hbl := MW_lt hMW
  have hSW0 := hSWs
  have hl : lv_has ls 1 [(0, .ref y0)] := hl
  have hin : ∀ w ∈ u_ws RX1 TX1 10, w ∈ wsX1_size := by decide +kernel
  have q_thrown := hts (.fieldLink RX1 29 "ShelfMarksModel" "thrown" "I") (by decide +kernel)
  have q_size := hts (.fieldLink RX1 36 "ShelfMarksModel" "size" "I") (by decide +kernel)
  refine lv_aload_n hx hb dX1_size_0 rfl (lv_at hl 0 rfl) ?_
  refine pv_iconst hx hb dX1_size_1 ?_
  refine va_put (D := D) (ci := 1) (v := .int (iI (0))) (ty := .int) (C := RX1) (T := TX1) (N := 10) hx hb hts hin tyX1 tyX1_ok nmX1 hown hK hP hD hS 0 rfl rfl 9 (by decide) q_thrown (fun _ h9 => h9) rfl (by decide +kernel) rfl rfl (Nat.le_of_ble_eq_true rfl) dX1_size_2 (fun H locs hP hD hS => ?_)
  have hP : va_P D vwCl (W1 cI cZ y0 y1 y2 y3 y6 y7 y8 (n) (came) (MV) (0) f g z sp rf rc) H := hP
  have hD : va_D (mM y0 y1 y2 y3 y6 y7 y8) (W1 cI cZ y0 y1 y2 y3 y6 y7 y8 (n) (came) (MV) (0) f g z sp rf rc) := hD
  refine lv_aload_n hx hb dX1_size_5 rfl (lv_at hl 0 rfl) ?_
  refine va_get (D := D) (ci := 1) (v := .int (iI (n))) (C := RX1) (T := TX1) (N := 10) hx hb hts hin hown hK hP 0 rfl rfl 1 (by decide) q_size (fun _ h9 => h9) rfl dX1_size_6 ?_
  exact mu_iret hx hb hr hlocks hS dX1_size_9 (by rfl) ⟨G, ZN, hGM, hMI, ⟨f, g, z, sp, rf, rc, hAf, hAg, hAz, hAsp, hArf, hArc, hP, hD.weaken (fun _ _ _ h => hmb _ h)⟩⟩
set_option maxHeartbeats 4000000 in
set_option maxRecDepth 100000 in
theorem c_M_moved (l : Launch) (D : va_G) (cI cZ : ClassId) (base st : Nat) (Z : Nat → Nat) (y0 y1 y2 y3 y6 y7 y8 : Nat) {n came MV th : Int} {F Gp SP RF RC : Int → Int}  : mu_M l yX1_moved wsX1_moved ({ frames := 0, cells := 0, slots := 0, locals := 0 } : Room) [.ref y0] (AP D cI cZ base st Z y0 y1 y2 y3 y6 y7 y8 n came MV th F Gp SP RF RC) (some (.int (iI (MV)))) (fun H => MA D cI cZ base y0 y1 y2 y3 y6 y7 y8 (n) (came) (MV) (0) (F) (Gp) (SP) (RF) (RC) H) (mM y0 y1 y2 y3 y6 y7 y8) := by
  refine mu_of (cc := cX1_moved) (maxL := 1) (ret := (some .int)) (own := RX1) (by decide) rfl rfl (Nat.le_of_ble_eq_true rfl) ?_
  intro p e s m below meth c ls B hCP hl hS
  obtain ⟨hx, hb, hml, hr, hts, hown, hlocks⟩ := B
  obtain ⟨hSWs, G, ZN, hGM, hMI, hMW⟩ := id hCP
  obtain ⟨hK, hZL, ⟨hstb, xs, hXL, hAL⟩, hTW⟩ := id hSWs
  obtain ⟨f, g, z, sp, rf, rc, hAf, hAg, hAz, hAsp, hArf, hArc, hP, hDb⟩ := id hMW
  have hD := MW_mD hDb
  have hmb := mM_b hDb
  have hbl := MW_lt hMW
  have hSW0 := hSWs
  have hl : lv_has ls 1 [(0, .ref y0)] := hl
  have hin : ∀ w ∈ u_ws RX1 TX1 10, w ∈ wsX1_moved := by decide +kernel
  have q_thrown := hts (.fieldLink RX1 29 "ShelfMarksModel" "thrown" "I") (by decide +kernel)
  have q_moved := hts (.fieldLink RX1 67 "ShelfMarksModel" "moved" "I") (by decide +kernel)
  refine lv_aload_n hx hb dX1_moved_0 rfl (lv_at hl 0 rfl) ?_
  refine pv_iconst hx hb dX1_moved_1 ?_
  refine va_put (D := D) (ci := 1) (v := .int (iI (0))) (ty := .int) (C := RX1) (T := TX1) (N := 10) hx hb hts hin tyX1 tyX1_ok nmX1 hown hK hP hD hS 0 rfl rfl 9 (by decide) q_thrown (fun _ h9 => h9) rfl (by decide +kernel) rfl rfl (Nat.le_of_ble_eq_true rfl) dX1_moved_2 (fun H locs hP hD hS => ?_)
  have hP : va_P D vwCl (W1 cI cZ y0 y1 y2 y3 y6 y7 y8 (n) (came) (MV) (0) f g z sp rf rc) H := hP
  have hD : va_D (mM y0 y1 y2 y3 y6 y7 y8) (W1 cI cZ y0 y1 y2 y3 y6 y7 y8 (n) (came) (MV) (0) f g z sp rf rc) := hD
  refine lv_aload_n hx hb dX1_moved_5 rfl (lv_at hl 0 rfl) ?_
  refine va_get (D := D) (ci := 1) (v := .int (iI (MV))) (C := RX1) (T := TX1) (N := 10) hx hb hts hin hown hK hP 0 rfl rfl 5 (by decide) q_moved (fun _ h9 => h9) rfl dX1_moved_6 ?_
  exact mu_iret hx hb hr hlocks hS dX1_moved_9 (by rfl) ⟨G, ZN, hGM, hMI, ⟨f, g, z, sp, rf, rc, hAf, hAg, hAz, hAsp, hArf, hArc, hP, hD.weaken (fun _ _ _ h => hmb _ h)⟩⟩
set_option maxHeartbeats 4000000 in
set_option maxRecDepth 100000 in
theorem c_M_first (l : Launch) (D : va_G) (cI cZ : ClassId) (base st : Nat) (Z : Nat → Nat) (y0 y1 y2 y3 y6 y7 y8 : Nat) {n came MV th : Int} {F Gp SP RF RC : Int → Int} (hn : 0 ≤ n ∧ n ≤ 60) (hF : ∀ k : Int, 0 ≤ k → k < n → 0 ≤ F k ∧ F k < 200) (r : Int) (hr9 : r = fa F n 0) : mu_M l yX1_first wsX1_first ({ frames := 0, cells := 0, slots := 0, locals := 0 } : Room) [.ref y0] (AP D cI cZ base st Z y0 y1 y2 y3 y6 y7 y8 n came MV th F Gp SP RF RC) (some (.int (iI (r)))) (fun H => MA D cI cZ base y0 y1 y2 y3 y6 y7 y8 (n) (came) (MV) (0) (F) (Gp) (SP) (RF) (RC) H) (mM y0 y1 y2 y3 y6 y7 y8) := by
  refine mu_of (cc := cX1_first) (maxL := 1) (ret := (some .int)) (own := RX1) (by decide) rfl rfl (Nat.le_of_ble_eq_true rfl) ?_
  intro p e s m below meth c ls B hCP hl hS
  obtain ⟨hx, hb, hml, hr, hts, hown, hlocks⟩ := B
  obtain ⟨hSWs, G, ZN, hGM, hMI, hMW⟩ := id hCP
  obtain ⟨hK, hZL, ⟨hstb, xs, hXL, hAL⟩, hTW⟩ := id hSWs
  obtain ⟨f, g, z, sp, rf, rc, hAf, hAg, hAz, hAsp, hArf, hArc, hP, hDb⟩ := id hMW
  have hD := MW_mD hDb
  have hmb := mM_b hDb
  have hbl := MW_lt hMW
  have hSW0 := hSWs
  have hl : lv_has ls 1 [(0, .ref y0)] := hl
  have hin : ∀ w ∈ u_ws RX1 TX1 10, w ∈ wsX1_first := by decide +kernel
  have q_order := hts (.fieldLink RX1 7 "ShelfMarksModel" "order" "[I") (by decide +kernel)
  have q_thrown := hts (.fieldLink RX1 29 "ShelfMarksModel" "thrown" "I") (by decide +kernel)
  have q_size := hts (.fieldLink RX1 36 "ShelfMarksModel" "size" "I") (by decide +kernel)
  refine lv_aload_n hx hb dX1_first_0 rfl (lv_at hl 0 rfl) ?_
  refine pv_iconst hx hb dX1_first_1 ?_
  refine va_put (D := D) (ci := 1) (v := .int (iI (0))) (ty := .int) (C := RX1) (T := TX1) (N := 10) hx hb hts hin tyX1 tyX1_ok nmX1 hown hK hP hD hS 0 rfl rfl 9 (by decide) q_thrown (fun _ h9 => h9) rfl (by decide +kernel) rfl rfl (Nat.le_of_ble_eq_true rfl) dX1_first_2 (fun H locs hP hD hS => ?_)
  have hP : va_P D vwCl (W1 cI cZ y0 y1 y2 y3 y6 y7 y8 (n) (came) (MV) (0) f g z sp rf rc) H := hP
  have hD : va_D (mM y0 y1 y2 y3 y6 y7 y8) (W1 cI cZ y0 y1 y2 y3 y6 y7 y8 (n) (came) (MV) (0) f g z sp rf rc) := hD
  refine lv_aload_n hx hb dX1_first_5 rfl (lv_at hl 0 rfl) ?_
  refine va_get (D := D) (ci := 1) (v := .int (iI (n))) (C := RX1) (T := TX1) (N := 10) hx hb hts hin hown hK hP 0 rfl rfl 1 (by decide) q_size (fun _ h9 => h9) rfl dX1_first_6 ?_
  refine pv_if_ne (tgt := 16) hx hb dX1_first_9 (by decide) (by omega) (fun c_9 => ?_) (fun c_9 => ?_)
  · -- 9t
    refine lv_aload_n hx hb dX1_first_16 rfl (lv_at hl 0 rfl) ?_
    refine va_get (D := D) (ci := 1) (v := .ref y1) (C := RX1) (T := TX1) (N := 10) hx hb hts hin hown hK hP 0 rfl rfl 0 (by decide) q_order (fun _ h9 => h9) rfl dX1_first_17 ?_
    refine pv_iconst hx hb dX1_first_20 ?_
    refine pv_iald (i := 0) (v := F (0)) hx hb hK hP 1 0 rfl rfl (by omega) (by decide) (hAf _ (by omega) (by omega)) dX1_first_21 ?_
    exact mu_iret hx hb hr hlocks hS dX1_first_22 (by rw [hr9]; unfold fa; rw [if_pos (by omega)]) ⟨G, ZN, hGM, hMI, ⟨f, g, z, sp, rf, rc, hAf, hAg, hAz, hAsp, hArf, hArc, hP, hD.weaken (fun _ _ _ h => hmb _ h)⟩⟩
  · -- 9f
    refine pv_iconst hx hb dX1_first_12 ?_
    refine lv_goto (tgt := 22) hx hb dX1_first_13 (by decide) ?_
    exact mu_iret hx hb hr hlocks hS dX1_first_22 (by rw [hr9]; unfold fa; rw [if_neg (by omega)]) ⟨G, ZN, hGM, hMI, ⟨f, g, z, sp, rf, rc, hAf, hAg, hAz, hAsp, hArf, hArc, hP, hD.weaken (fun _ _ _ h => hmb _ h)⟩⟩
set_option maxHeartbeats 4000000 in
set_option maxRecDepth 100000 in
theorem c_M_next (l : Launch) (D : va_G) (cI cZ : ClassId) (base st : Nat) (Z : Nat → Nat) (y0 y1 y2 y3 y6 y7 y8 : Nat) {n came MV th : Int} {F Gp SP RF RC : Int → Int} (hn : 0 ≤ n ∧ n ≤ 60) (hF : ∀ k : Int, 0 ≤ k → k < n → 0 ≤ F k ∧ F k < 200) (x : Int) (hxr : (-2147483648 ≤ x ∧ x ≤ 2147483647)) (rp : Int) (hrp : PL F n x rp) (h0 : 0 ≤ rp) (r : Int) (hr9 : r = fa F n (rp + 1)) : mu_M l yX1_next wsX1_next ({ frames := 2, cells := 0, slots := 0, locals := 44 } : Room) [.ref y0, .int (iI (x))] (AP D cI cZ base st Z y0 y1 y2 y3 y6 y7 y8 n came MV th F Gp SP RF RC) (some (.int (iI (r)))) (fun H => MA D cI cZ base y0 y1 y2 y3 y6 y7 y8 (n) (came) (MV) (0) (F) (Gp) (SP) (RF) (RC) H) (mM y0 y1 y2 y3 y6 y7 y8) := by
  refine mu_of (cc := cX1_next) (maxL := 2) (ret := (some .int)) (own := RX1) (by decide) rfl rfl (Nat.le_of_ble_eq_true rfl) ?_
  intro p e s m below meth c ls B hCP hl hS
  obtain ⟨hx, hb, hml, hr, hts, hown, hlocks⟩ := B
  obtain ⟨hSWs, G, ZN, hGM, hMI, hMW⟩ := id hCP
  obtain ⟨hK, hZL, ⟨hstb, xs, hXL, hAL⟩, hTW⟩ := id hSWs
  obtain ⟨f, g, z, sp, rf, rc, hAf, hAg, hAz, hAsp, hArf, hArc, hP, hDb⟩ := id hMW
  have hD := MW_mD hDb
  have hmb := mM_b hDb
  have hbl := MW_lt hMW
  have hSW0 := hSWs
  have hl : lv_has ls 2 [(0, .ref y0), (1, .int (iI (x)))] := hl
  have hin : ∀ w ∈ u_ws RX1 TX1 10, w ∈ wsX1_next := by decide +kernel
  have q_thrown := hts (.fieldLink RX1 29 "ShelfMarksModel" "thrown" "I") (by decide +kernel)
  refine lv_aload_n hx hb dX1_next_0 rfl (lv_at hl 0 rfl) ?_
  refine lv_aload_n hx hb dX1_next_1 rfl (lv_at hl 0 rfl) ?_
  refine lv_iload_n hx hb dX1_next_2 rfl (lv_at hl 1 rfl) ?_
  have hCP : MP D cI cZ base st Z y0 y1 y2 y3 y6 y7 y8 (n) (came) (MV) (th) (F) (G) (ZN) (SP) (RF) (RC) s s.heap := ⟨hSW0.behind hbl hmb hS, ⟨f, g, z, sp, rf, rc, hAf, hAg, hAz, hAsp, hArf, hArc, hP, hD.weaken (fun _ _ _ h => hmb _ h)⟩⟩
  refine pu_callV (v := 1) (As := [.int (iI (x))]) (rest := [.ref y0]) MP_mv ⟨hx, hb, hml, hown, hts⟩ (c_M_known l D cI cZ base st Z y0 y1 y2 y3 y6 y7 y8 hMI x hxr 1 (kn_1 hMI hF hrp h0).symm) (cwV 1 hts gX1_next_X1_known rfl rfl rfl (by decide +kernel) ⟨(Nat.le_of_ble_eq_true rfl), (Nat.le_of_ble_eq_true rfl)⟩) hCP (MP_rc hCP) rfl rfl hl.1 (Nat.le_of_ble_eq_true rfl) dX1_next_3 ⟨Nat.zero_le _, Nat.zero_le _⟩ ?_
  refine pv_if_eq (tgt := 13) hx hb dX1_next_6 (by decide) (by omega) (fun c_6 => ?_) (fun c_6 => ?_)
  · exact absurd c_6 (by omega)
  · -- 6f
    refine pv_iconst hx hb dX1_next_9 ?_
    refine lv_goto (tgt := 14) hx hb dX1_next_10 (by decide) ?_
    refine va_put (D := D) (ci := 1) (v := .int (iI (0))) (ty := .int) (C := RX1) (T := TX1) (N := 10) hx hb hts hin tyX1 tyX1_ok nmX1 hown hK hP hD hS 0 rfl rfl 9 (by decide) q_thrown (fun _ h9 => h9) rfl (by decide +kernel) rfl rfl (Nat.le_of_ble_eq_true rfl) dX1_next_14 (fun H locs hP hD hS => ?_)
    have hP : va_P D vwCl (W1 cI cZ y0 y1 y2 y3 y6 y7 y8 (n) (came) (MV) (0) f g z sp rf rc) H := hP
    have hD : va_D (mM y0 y1 y2 y3 y6 y7 y8) (W1 cI cZ y0 y1 y2 y3 y6 y7 y8 (n) (came) (MV) (0) f g z sp rf rc) := hD
    refine lv_aload_n hx hb dX1_next_17 rfl (lv_at hl 0 rfl) ?_
    refine va_get (D := D) (ci := 1) (v := .int (iI (0))) (C := RX1) (T := TX1) (N := 10) hx hb hts hin hown hK hP 0 rfl rfl 9 (by decide) q_thrown (fun _ h9 => h9) rfl dX1_next_18 ?_
    refine pv_if_le (tgt := 28) hx hb dX1_next_21 (by decide) (by omega) (fun c_21 => ?_) (fun c_21 => ?_)
    · -- 21t
      refine lv_aload_n hx hb dX1_next_28 rfl (lv_at hl 0 rfl) ?_
      refine lv_iload_n hx hb dX1_next_29 rfl (lv_at hl 1 rfl) ?_
      have hCP : MP D cI cZ base st Z y0 y1 y2 y3 y6 y7 y8 (n) (came) (MV) (0) (F) (G) (ZN) (SP) (RF) (RC) s H := ⟨hSW0.behind hbl hmb hS, ⟨f, g, z, sp, rf, rc, hAf, hAg, hAz, hAsp, hArf, hArc, hP, hD.weaken (fun _ _ _ h => hmb _ h)⟩⟩
      refine pu_callV (v := r) (As := [.int (iI (x))]) (rest := []) MP_mv ⟨hx, hb, hml, hown, hts⟩ (c_M_behind l D cI cZ base st Z y0 y1 y2 y3 y6 y7 y8 hn hF x hxr rp hrp h0 r hr9) (cwV 1 hts gX1_next_X1_behind rfl rfl rfl (by decide +kernel) ⟨(Nat.le_of_ble_eq_true rfl), (Nat.le_of_ble_eq_true rfl)⟩) hCP (MP_rc hCP) rfl rfl hl.1 (Nat.le_of_ble_eq_true rfl) dX1_next_30 ⟨Nat.zero_le _, Nat.zero_le _⟩ ?_
      exact mu_iret hx hb hr hlocks hS dX1_next_33 (by rfl) ⟨G, ZN, hGM, hMI, ⟨f, g, z, sp, rf, rc, hAf, hAg, hAz, hAsp, hArf, hArc, hP, hD.weaken (fun _ _ _ h => hmb _ h)⟩⟩
    · exact absurd c_21 (by omega)
set_option maxHeartbeats 4000000 in
set_option maxRecDepth 100000 in
theorem d_M_next (l : Launch) (D : va_G) (cI cZ : ClassId) (base st : Nat) (Z : Nat → Nat) (y0 y1 y2 y3 y6 y7 y8 : Nat) {n came MV th : Int} {F Gp SP RF RC : Int → Int} (x : Int) (hxr : (-2147483648 ≤ x ∧ x ≤ 2147483647)) (hrp : PL F n x (-1)) : mu_M l yX1_next wsX1_next ({ frames := 1, cells := 0, slots := 0, locals := 21 } : Room) [.ref y0, .int (iI (x))] (AP D cI cZ base st Z y0 y1 y2 y3 y6 y7 y8 n came MV th F Gp SP RF RC) (some (.int (iI (0)))) (fun H => MA D cI cZ base y0 y1 y2 y3 y6 y7 y8 (n) (came) (MV) (1) (F) (Gp) (SP) (RF) (RC) H) (mM y0 y1 y2 y3 y6 y7 y8) := by
  refine mu_of (cc := cX1_next) (maxL := 2) (ret := (some .int)) (own := RX1) (by decide) rfl rfl (Nat.le_of_ble_eq_true rfl) ?_
  intro p e s m below meth c ls B hCP hl hS
  obtain ⟨hx, hb, hml, hr, hts, hown, hlocks⟩ := B
  obtain ⟨hSWs, G, ZN, hGM, hMI, hMW⟩ := id hCP
  obtain ⟨hK, hZL, ⟨hstb, xs, hXL, hAL⟩, hTW⟩ := id hSWs
  obtain ⟨f, g, z, sp, rf, rc, hAf, hAg, hAz, hAsp, hArf, hArc, hP, hDb⟩ := id hMW
  have hD := MW_mD hDb
  have hmb := mM_b hDb
  have hbl := MW_lt hMW
  have hSW0 := hSWs
  have hl : lv_has ls 2 [(0, .ref y0), (1, .int (iI (x)))] := hl
  have hin : ∀ w ∈ u_ws RX1 TX1 10, w ∈ wsX1_next := by decide +kernel
  have q_thrown := hts (.fieldLink RX1 29 "ShelfMarksModel" "thrown" "I") (by decide +kernel)
  refine lv_aload_n hx hb dX1_next_0 rfl (lv_at hl 0 rfl) ?_
  refine lv_aload_n hx hb dX1_next_1 rfl (lv_at hl 0 rfl) ?_
  refine lv_iload_n hx hb dX1_next_2 rfl (lv_at hl 1 rfl) ?_
  have hCP : MP D cI cZ base st Z y0 y1 y2 y3 y6 y7 y8 (n) (came) (MV) (th) (F) (G) (ZN) (SP) (RF) (RC) s s.heap := ⟨hSW0.behind hbl hmb hS, ⟨f, g, z, sp, rf, rc, hAf, hAg, hAz, hAsp, hArf, hArc, hP, hD.weaken (fun _ _ _ h => hmb _ h)⟩⟩
  refine pu_callV (v := 0) (As := [.int (iI (x))]) (rest := [.ref y0]) MP_mv ⟨hx, hb, hml, hown, hts⟩ (c_M_known l D cI cZ base st Z y0 y1 y2 y3 y6 y7 y8 hMI x hxr 0 (kn_0 hMI hrp).symm) (cwV 1 hts gX1_next_X1_known rfl rfl rfl (by decide +kernel) ⟨(Nat.le_of_ble_eq_true rfl), (Nat.le_of_ble_eq_true rfl)⟩) hCP (MP_rc hCP) rfl rfl hl.1 (Nat.le_of_ble_eq_true rfl) dX1_next_3 ⟨Nat.zero_le _, Nat.zero_le _⟩ ?_
  refine pv_if_eq (tgt := 13) hx hb dX1_next_6 (by decide) (by omega) (fun c_6 => ?_) (fun c_6 => ?_)
  · -- 6t
    refine pv_iconst hx hb dX1_next_13 ?_
    refine va_put (D := D) (ci := 1) (v := .int (iI (1))) (ty := .int) (C := RX1) (T := TX1) (N := 10) hx hb hts hin tyX1 tyX1_ok nmX1 hown hK hP hD hS 0 rfl rfl 9 (by decide) q_thrown (fun _ h9 => h9) rfl (by decide +kernel) rfl rfl (Nat.le_of_ble_eq_true rfl) dX1_next_14 (fun H locs hP hD hS => ?_)
    have hP : va_P D vwCl (W1 cI cZ y0 y1 y2 y3 y6 y7 y8 (n) (came) (MV) (1) f g z sp rf rc) H := hP
    have hD : va_D (mM y0 y1 y2 y3 y6 y7 y8) (W1 cI cZ y0 y1 y2 y3 y6 y7 y8 (n) (came) (MV) (1) f g z sp rf rc) := hD
    refine lv_aload_n hx hb dX1_next_17 rfl (lv_at hl 0 rfl) ?_
    refine va_get (D := D) (ci := 1) (v := .int (iI (1))) (C := RX1) (T := TX1) (N := 10) hx hb hts hin hown hK hP 0 rfl rfl 9 (by decide) q_thrown (fun _ h9 => h9) rfl dX1_next_18 ?_
    refine pv_if_le (tgt := 28) hx hb dX1_next_21 (by decide) (by omega) (fun c_21 => ?_) (fun c_21 => ?_)
    · exact absurd c_21 (by omega)
    · -- 21f
      refine pv_iconst hx hb dX1_next_24 ?_
      refine lv_goto (tgt := 33) hx hb dX1_next_25 (by decide) ?_
      exact mu_iret hx hb hr hlocks hS dX1_next_33 (by rfl) ⟨G, ZN, hGM, hMI, ⟨f, g, z, sp, rf, rc, hAf, hAg, hAz, hAsp, hArf, hArc, hP, hD.weaken (fun _ _ _ h => hmb _ h)⟩⟩
  · exact absurd c_6 (by omega)
set_option maxHeartbeats 4000000 in
set_option maxRecDepth 100000 in
theorem c_M_previous (l : Launch) (D : va_G) (cI cZ : ClassId) (base st : Nat) (Z : Nat → Nat) (y0 y1 y2 y3 y6 y7 y8 : Nat) {n came MV th : Int} {F Gp SP RF RC : Int → Int} (hn : 0 ≤ n ∧ n ≤ 60) (hF : ∀ k : Int, 0 ≤ k → k < n → 0 ≤ F k ∧ F k < 200) (x : Int) (hxr : (-2147483648 ≤ x ∧ x ≤ 2147483647)) (rp : Int) (hrp : PL F n x rp) (h0 : 0 ≤ rp) (r : Int) (hr9 : r = fa F n (rp - 1)) : mu_M l yX1_previous wsX1_previous ({ frames := 1, cells := 0, slots := 0, locals := 22 } : Room) [.ref y0, .int (iI (x))] (AP D cI cZ base st Z y0 y1 y2 y3 y6 y7 y8 n came MV th F Gp SP RF RC) (some (.int (iI (r)))) (fun H => MA D cI cZ base y0 y1 y2 y3 y6 y7 y8 (n) (came) (MV) (0) (F) (Gp) (SP) (RF) (RC) H) (mM y0 y1 y2 y3 y6 y7 y8) := by
  refine mu_of (cc := cX1_previous) (maxL := 3) (ret := (some .int)) (own := RX1) (by decide) rfl rfl (Nat.le_of_ble_eq_true rfl) ?_
  intro p e s m below meth c ls B hCP hl hS
  obtain ⟨hx, hb, hml, hr, hts, hown, hlocks⟩ := B
  obtain ⟨hSWs, G, ZN, hGM, hMI, hMW⟩ := id hCP
  obtain ⟨hK, hZL, ⟨hstb, xs, hXL, hAL⟩, hTW⟩ := id hSWs
  obtain ⟨f, g, z, sp, rf, rc, hAf, hAg, hAz, hAsp, hArf, hArc, hP, hDb⟩ := id hMW
  have hD := MW_mD hDb
  have hmb := mM_b hDb
  have hbl := MW_lt hMW
  have hSW0 := hSWs
  have hl : lv_has ls 3 [(0, .ref y0), (1, .int (iI (x)))] := hl
  have hin : ∀ w ∈ u_ws RX1 TX1 10, w ∈ wsX1_previous := by decide +kernel
  have q_order := hts (.fieldLink RX1 7 "ShelfMarksModel" "order" "[I") (by decide +kernel)
  have q_thrown := hts (.fieldLink RX1 29 "ShelfMarksModel" "thrown" "I") (by decide +kernel)
  obtain ⟨hx1, hx2, hx3⟩ := PL_p hrp h0
  refine lv_aload_n hx hb dX1_previous_0 rfl (lv_at hl 0 rfl) ?_
  refine lv_aload_n hx hb dX1_previous_1 rfl (lv_at hl 0 rfl) ?_
  refine lv_iload_n hx hb dX1_previous_2 rfl (lv_at hl 1 rfl) ?_
  have hCP : MP D cI cZ base st Z y0 y1 y2 y3 y6 y7 y8 (n) (came) (MV) (th) (F) (G) (ZN) (SP) (RF) (RC) s s.heap := ⟨hSW0.behind hbl hmb hS, ⟨f, g, z, sp, rf, rc, hAf, hAg, hAz, hAsp, hArf, hArc, hP, hD.weaken (fun _ _ _ h => hmb _ h)⟩⟩
  refine pu_callV (v := 1) (As := [.int (iI (x))]) (rest := [.ref y0]) MP_mv ⟨hx, hb, hml, hown, hts⟩ (c_M_known l D cI cZ base st Z y0 y1 y2 y3 y6 y7 y8 hMI x hxr 1 (kn_1 hMI hF hrp h0).symm) (cwV 1 hts gX1_previous_X1_known rfl rfl rfl (by decide +kernel) ⟨(Nat.le_of_ble_eq_true rfl), (Nat.le_of_ble_eq_true rfl)⟩) hCP (MP_rc hCP) rfl rfl hl.1 (Nat.le_of_ble_eq_true rfl) dX1_previous_3 ⟨Nat.zero_le _, Nat.zero_le _⟩ ?_
  refine pv_if_eq (tgt := 13) hx hb dX1_previous_6 (by decide) (by omega) (fun c_6 => ?_) (fun c_6 => ?_)
  · exact absurd c_6 (by omega)
  · -- 6f
    refine pv_iconst hx hb dX1_previous_9 ?_
    refine lv_goto (tgt := 14) hx hb dX1_previous_10 (by decide) ?_
    refine va_put (D := D) (ci := 1) (v := .int (iI (0))) (ty := .int) (C := RX1) (T := TX1) (N := 10) hx hb hts hin tyX1 tyX1_ok nmX1 hown hK hP hD hS 0 rfl rfl 9 (by decide) q_thrown (fun _ h9 => h9) rfl (by decide +kernel) rfl rfl (Nat.le_of_ble_eq_true rfl) dX1_previous_14 (fun H locs hP hD hS => ?_)
    have hP : va_P D vwCl (W1 cI cZ y0 y1 y2 y3 y6 y7 y8 (n) (came) (MV) (0) f g z sp rf rc) H := hP
    have hD : va_D (mM y0 y1 y2 y3 y6 y7 y8) (W1 cI cZ y0 y1 y2 y3 y6 y7 y8 (n) (came) (MV) (0) f g z sp rf rc) := hD
    refine lv_aload_n hx hb dX1_previous_17 rfl (lv_at hl 0 rfl) ?_
    refine va_get (D := D) (ci := 1) (v := .int (iI (0))) (C := RX1) (T := TX1) (N := 10) hx hb hts hin hown hK hP 0 rfl rfl 9 (by decide) q_thrown (fun _ h9 => h9) rfl dX1_previous_18 ?_
    refine pv_if_le (tgt := 26) hx hb dX1_previous_21 (by decide) (by omega) (fun c_21 => ?_) (fun c_21 => ?_)
    · -- 21t
      refine lv_aload_n hx hb dX1_previous_26 rfl (lv_at hl 0 rfl) ?_
      refine lv_iload_n hx hb dX1_previous_27 rfl (lv_at hl 1 rfl) ?_
      have hCP : MP D cI cZ base st Z y0 y1 y2 y3 y6 y7 y8 (n) (came) (MV) (0) (F) (G) (ZN) (SP) (RF) (RC) s H := ⟨hSW0.behind hbl hmb hS, ⟨f, g, z, sp, rf, rc, hAf, hAg, hAz, hAsp, hArf, hArc, hP, hD.weaken (fun _ _ _ h => hmb _ h)⟩⟩
      refine pu_callV (v := rp) (As := [.int (iI (x))]) (rest := []) MP_mv ⟨hx, hb, hml, hown, hts⟩ (c_M_place l D cI cZ base st Z y0 y1 y2 y3 y6 y7 y8 hn hF x hxr rp hrp h0) (cwV 1 hts gX1_previous_X1_place rfl rfl rfl (by decide +kernel) ⟨(Nat.le_of_ble_eq_true rfl), (Nat.le_of_ble_eq_true rfl)⟩) hCP (MP_rc hCP) rfl rfl hl.1 (Nat.le_of_ble_eq_true rfl) dX1_previous_28 ⟨Nat.zero_le _, Nat.zero_le _⟩ ?_
      refine lv_istore_n (lv' := [(2, .int (iI (rp))), (0, .ref y0), (1, .int (iI (x)))]) hx hb dX1_previous_31 rfl hl (by decide) rfl (fun ls hl => ?_)
      refine lv_iload_n hx hb dX1_previous_32 rfl (lv_at hl 0 rfl) ?_
      refine pv_if_ne (tgt := 40) hx hb dX1_previous_33 (by decide) (by omega) (fun c_33 => ?_) (fun c_33 => ?_)
      · -- 33t
        refine lv_aload_n hx hb dX1_previous_40 rfl (lv_at hl 1 rfl) ?_
        refine va_get (D := D) (ci := 1) (v := .ref y1) (C := RX1) (T := TX1) (N := 10) hx hb hts hin hown hK hP 0 rfl rfl 0 (by decide) q_order (fun _ h9 => h9) rfl dX1_previous_41 ?_
        refine lv_iload_n hx hb dX1_previous_44 rfl (lv_at hl 0 rfl) ?_
        refine pv_iconst hx hb dX1_previous_45 ?_
        refine pv_isub hx hb dX1_previous_46 ?_
        refine pv_iald (i := (rp) - (1)) (v := F ((rp) - (1))) hx hb hK hP 1 0 rfl rfl (by omega) (by decide) (hAf _ (by omega) (by omega)) dX1_previous_47 ?_
        exact mu_iret hx hb hr hlocks hS dX1_previous_48 (by rw [hr9]; unfold fa; rw [if_pos (by omega)]) ⟨G, ZN, hGM, hMI, ⟨f, g, z, sp, rf, rc, hAf, hAg, hAz, hAsp, hArf, hArc, hP, hD.weaken (fun _ _ _ h => hmb _ h)⟩⟩
      · -- 33f
        refine pv_iconst hx hb dX1_previous_36 ?_
        refine lv_goto (tgt := 48) hx hb dX1_previous_37 (by decide) ?_
        exact mu_iret hx hb hr hlocks hS dX1_previous_48 (by rw [hr9]; unfold fa; rw [if_neg (by omega)]) ⟨G, ZN, hGM, hMI, ⟨f, g, z, sp, rf, rc, hAf, hAg, hAz, hAsp, hArf, hArc, hP, hD.weaken (fun _ _ _ h => hmb _ h)⟩⟩
    · exact absurd c_21 (by omega)
set_option maxHeartbeats 4000000 in
set_option maxRecDepth 100000 in
theorem d_M_previous (l : Launch) (D : va_G) (cI cZ : ClassId) (base st : Nat) (Z : Nat → Nat) (y0 y1 y2 y3 y6 y7 y8 : Nat) {n came MV th : Int} {F Gp SP RF RC : Int → Int} (x : Int) (hxr : (-2147483648 ≤ x ∧ x ≤ 2147483647)) (hrp : PL F n x (-1)) : mu_M l yX1_previous wsX1_previous ({ frames := 1, cells := 0, slots := 0, locals := 21 } : Room) [.ref y0, .int (iI (x))] (AP D cI cZ base st Z y0 y1 y2 y3 y6 y7 y8 n came MV th F Gp SP RF RC) (some (.int (iI (0)))) (fun H => MA D cI cZ base y0 y1 y2 y3 y6 y7 y8 (n) (came) (MV) (1) (F) (Gp) (SP) (RF) (RC) H) (mM y0 y1 y2 y3 y6 y7 y8) := by
  refine mu_of (cc := cX1_previous) (maxL := 3) (ret := (some .int)) (own := RX1) (by decide) rfl rfl (Nat.le_of_ble_eq_true rfl) ?_
  intro p e s m below meth c ls B hCP hl hS
  obtain ⟨hx, hb, hml, hr, hts, hown, hlocks⟩ := B
  obtain ⟨hSWs, G, ZN, hGM, hMI, hMW⟩ := id hCP
  obtain ⟨hK, hZL, ⟨hstb, xs, hXL, hAL⟩, hTW⟩ := id hSWs
  obtain ⟨f, g, z, sp, rf, rc, hAf, hAg, hAz, hAsp, hArf, hArc, hP, hDb⟩ := id hMW
  have hD := MW_mD hDb
  have hmb := mM_b hDb
  have hbl := MW_lt hMW
  have hSW0 := hSWs
  have hl : lv_has ls 3 [(0, .ref y0), (1, .int (iI (x)))] := hl
  have hin : ∀ w ∈ u_ws RX1 TX1 10, w ∈ wsX1_previous := by decide +kernel
  have q_thrown := hts (.fieldLink RX1 29 "ShelfMarksModel" "thrown" "I") (by decide +kernel)
  refine lv_aload_n hx hb dX1_previous_0 rfl (lv_at hl 0 rfl) ?_
  refine lv_aload_n hx hb dX1_previous_1 rfl (lv_at hl 0 rfl) ?_
  refine lv_iload_n hx hb dX1_previous_2 rfl (lv_at hl 1 rfl) ?_
  have hCP : MP D cI cZ base st Z y0 y1 y2 y3 y6 y7 y8 (n) (came) (MV) (th) (F) (G) (ZN) (SP) (RF) (RC) s s.heap := ⟨hSW0.behind hbl hmb hS, ⟨f, g, z, sp, rf, rc, hAf, hAg, hAz, hAsp, hArf, hArc, hP, hD.weaken (fun _ _ _ h => hmb _ h)⟩⟩
  refine pu_callV (v := 0) (As := [.int (iI (x))]) (rest := [.ref y0]) MP_mv ⟨hx, hb, hml, hown, hts⟩ (c_M_known l D cI cZ base st Z y0 y1 y2 y3 y6 y7 y8 hMI x hxr 0 (kn_0 hMI hrp).symm) (cwV 1 hts gX1_previous_X1_known rfl rfl rfl (by decide +kernel) ⟨(Nat.le_of_ble_eq_true rfl), (Nat.le_of_ble_eq_true rfl)⟩) hCP (MP_rc hCP) rfl rfl hl.1 (Nat.le_of_ble_eq_true rfl) dX1_previous_3 ⟨Nat.zero_le _, Nat.zero_le _⟩ ?_
  refine pv_if_eq (tgt := 13) hx hb dX1_previous_6 (by decide) (by omega) (fun c_6 => ?_) (fun c_6 => ?_)
  · -- 6t
    refine pv_iconst hx hb dX1_previous_13 ?_
    refine va_put (D := D) (ci := 1) (v := .int (iI (1))) (ty := .int) (C := RX1) (T := TX1) (N := 10) hx hb hts hin tyX1 tyX1_ok nmX1 hown hK hP hD hS 0 rfl rfl 9 (by decide) q_thrown (fun _ h9 => h9) rfl (by decide +kernel) rfl rfl (Nat.le_of_ble_eq_true rfl) dX1_previous_14 (fun H locs hP hD hS => ?_)
    have hP : va_P D vwCl (W1 cI cZ y0 y1 y2 y3 y6 y7 y8 (n) (came) (MV) (1) f g z sp rf rc) H := hP
    have hD : va_D (mM y0 y1 y2 y3 y6 y7 y8) (W1 cI cZ y0 y1 y2 y3 y6 y7 y8 (n) (came) (MV) (1) f g z sp rf rc) := hD
    refine lv_aload_n hx hb dX1_previous_17 rfl (lv_at hl 0 rfl) ?_
    refine va_get (D := D) (ci := 1) (v := .int (iI (1))) (C := RX1) (T := TX1) (N := 10) hx hb hts hin hown hK hP 0 rfl rfl 9 (by decide) q_thrown (fun _ h9 => h9) rfl dX1_previous_18 ?_
    refine pv_if_le (tgt := 26) hx hb dX1_previous_21 (by decide) (by omega) (fun c_21 => ?_) (fun c_21 => ?_)
    · exact absurd c_21 (by omega)
    · -- 21f
      refine pv_iconst hx hb dX1_previous_24 ?_
      exact mu_iret hx hb hr hlocks hS dX1_previous_25 (by rfl) ⟨G, ZN, hGM, hMI, ⟨f, g, z, sp, rf, rc, hAf, hAg, hAz, hAsp, hArf, hArc, hP, hD.weaken (fun _ _ _ h => hmb _ h)⟩⟩
  · exact absurd c_6 (by omega)
set_option maxHeartbeats 4000000 in
set_option maxRecDepth 100000 in
theorem c_M_has (l : Launch) (D : va_G) (cI cZ : ClassId) (base st : Nat) (Z : Nat → Nat) (y0 y1 y2 y3 y6 y7 y8 : Nat) {n came MV th : Int} {F Gp SP RF RC : Int → Int} (hn : 0 ≤ n ∧ n ≤ 60) (hF : ∀ k : Int, 0 ≤ k → k < n → 0 ≤ F k ∧ F k < 200) (x : Int) (hxr : (-2147483648 ≤ x ∧ x ≤ 2147483647)) (rp : Int) (hrp : PL F n x rp) (r : Int) (hr9 : r = if rp = -1 then 0 else 1) : mu_M l yX1_has wsX1_has ({ frames := 1, cells := 0, slots := 0, locals := 21 } : Room) [.ref y0, .int (iI (x))] (AP D cI cZ base st Z y0 y1 y2 y3 y6 y7 y8 n came MV th F Gp SP RF RC) (some (.int (iI (r)))) (fun H => MA D cI cZ base y0 y1 y2 y3 y6 y7 y8 (n) (came) (MV) (0) (F) (Gp) (SP) (RF) (RC) H) (mM y0 y1 y2 y3 y6 y7 y8) := by
  refine mu_of (cc := cX1_has) (maxL := 2) (ret := (some .boolean)) (own := RX1) (by decide) rfl rfl (Nat.le_of_ble_eq_true rfl) ?_
  intro p e s m below meth c ls B hCP hl hS
  obtain ⟨hx, hb, hml, hr, hts, hown, hlocks⟩ := B
  obtain ⟨hSWs, G, ZN, hGM, hMI, hMW⟩ := id hCP
  obtain ⟨hK, hZL, ⟨hstb, xs, hXL, hAL⟩, hTW⟩ := id hSWs
  obtain ⟨f, g, z, sp, rf, rc, hAf, hAg, hAz, hAsp, hArf, hArc, hP, hDb⟩ := id hMW
  have hD := MW_mD hDb
  have hmb := mM_b hDb
  have hbl := MW_lt hMW
  have hSW0 := hSWs
  have hl : lv_has ls 2 [(0, .ref y0), (1, .int (iI (x)))] := hl
  have hin : ∀ w ∈ u_ws RX1 TX1 10, w ∈ wsX1_has := by decide +kernel
  have q_thrown := hts (.fieldLink RX1 29 "ShelfMarksModel" "thrown" "I") (by decide +kernel)
  have hz9 : r = 0 ∨ r = 1 := by rw [hr9]; split <;> omega
  refine lv_aload_n hx hb dX1_has_0 rfl (lv_at hl 0 rfl) ?_
  refine pv_iconst hx hb dX1_has_1 ?_
  refine va_put (D := D) (ci := 1) (v := .int (iI (0))) (ty := .int) (C := RX1) (T := TX1) (N := 10) hx hb hts hin tyX1 tyX1_ok nmX1 hown hK hP hD hS 0 rfl rfl 9 (by decide) q_thrown (fun _ h9 => h9) rfl (by decide +kernel) rfl rfl (Nat.le_of_ble_eq_true rfl) dX1_has_2 (fun H locs hP hD hS => ?_)
  have hP : va_P D vwCl (W1 cI cZ y0 y1 y2 y3 y6 y7 y8 (n) (came) (MV) (0) f g z sp rf rc) H := hP
  have hD : va_D (mM y0 y1 y2 y3 y6 y7 y8) (W1 cI cZ y0 y1 y2 y3 y6 y7 y8 (n) (came) (MV) (0) f g z sp rf rc) := hD
  refine lv_aload_n hx hb dX1_has_5 rfl (lv_at hl 0 rfl) ?_
  refine lv_iload_n hx hb dX1_has_6 rfl (lv_at hl 1 rfl) ?_
  have hCP : MP D cI cZ base st Z y0 y1 y2 y3 y6 y7 y8 (n) (came) (MV) (0) (F) (G) (ZN) (SP) (RF) (RC) s H := ⟨hSW0.behind hbl hmb hS, ⟨f, g, z, sp, rf, rc, hAf, hAg, hAz, hAsp, hArf, hArc, hP, hD.weaken (fun _ _ _ h => hmb _ h)⟩⟩
  refine pu_callV (v := r) (As := [.int (iI (x))]) (rest := []) MP_mv ⟨hx, hb, hml, hown, hts⟩ (c_M_known l D cI cZ base st Z y0 y1 y2 y3 y6 y7 y8 hMI x hxr r (by rw [hr9]; split; (rename_i z; rw [z] at hrp; exact (kn_0 hMI hrp).symm); (rename_i z; have hpr := PL_rg hn.1 hrp; exact (kn_1 hMI hF hrp (by omega)).symm))) (cwV 1 hts gX1_has_X1_known rfl rfl rfl (by decide +kernel) ⟨(Nat.le_of_ble_eq_true rfl), (Nat.le_of_ble_eq_true rfl)⟩) hCP (MP_rc hCP) rfl rfl hl.1 (Nat.le_of_ble_eq_true rfl) dX1_has_7 ⟨Nat.zero_le _, Nat.zero_le _⟩ ?_
  exact mu_zret hx hb hr hlocks hS dX1_has_10 (by rfl) hz9 ⟨G, ZN, hGM, hMI, ⟨f, g, z, sp, rf, rc, hAf, hAg, hAz, hAsp, hArf, hArc, hP, hD.weaken (fun _ _ _ h => hmb _ h)⟩⟩
set_option maxHeartbeats 4000000 in
set_option maxRecDepth 100000 in
theorem c_M_mark (l : Launch) (D : va_G) (cI cZ : ClassId) (base st : Nat) (Z : Nat → Nat) (y0 y1 y2 y3 y6 y7 y8 : Nat) {n came MV th : Int} {F Gp SP RF RC : Int → Int} (hn : 0 ≤ n ∧ n ≤ 60) (hF : ∀ k : Int, 0 ≤ k → k < n → 0 ≤ F k ∧ F k < 200) (x : Int) (hxr : (-2147483648 ≤ x ∧ x ≤ 2147483647)) (rp : Int) (hrp : PL F n x rp) (h0 : 0 ≤ rp) : mu_M l yX1_mark wsX1_mark ({ frames := 1, cells := 0, slots := 0, locals := 21 } : Room) [.ref y0, .int (iI (x))] (AP D cI cZ base st Z y0 y1 y2 y3 y6 y7 y8 n came MV th F Gp SP RF RC) (some (.int (iI (Gp rp)))) (fun H => MA D cI cZ base y0 y1 y2 y3 y6 y7 y8 (n) (came) (MV) (0) (F) (Gp) (SP) (RF) (RC) H) (mM y0 y1 y2 y3 y6 y7 y8) := by
  refine mu_of (cc := cX1_mark) (maxL := 2) (ret := (some .int)) (own := RX1) (by decide) rfl rfl (Nat.le_of_ble_eq_true rfl) ?_
  intro p e s m below meth c ls B hCP hl hS
  obtain ⟨hx, hb, hml, hr, hts, hown, hlocks⟩ := B
  obtain ⟨hSWs, G, ZN, hGM, hMI, hMW⟩ := id hCP
  obtain ⟨hK, hZL, ⟨hstb, xs, hXL, hAL⟩, hTW⟩ := id hSWs
  obtain ⟨f, g, z, sp, rf, rc, hAf, hAg, hAz, hAsp, hArf, hArc, hP, hDb⟩ := id hMW
  have hD := MW_mD hDb
  have hmb := mM_b hDb
  have hbl := MW_lt hMW
  have hSW0 := hSWs
  have hl : lv_has ls 2 [(0, .ref y0), (1, .int (iI (x)))] := hl
  have hin : ∀ w ∈ u_ws RX1 TX1 10, w ∈ wsX1_mark := by decide +kernel
  have q_marks := hts (.fieldLink RX1 13 "ShelfMarksModel" "marks" "[I") (by decide +kernel)
  have q_thrown := hts (.fieldLink RX1 29 "ShelfMarksModel" "thrown" "I") (by decide +kernel)
  obtain ⟨hx1, hx2, hx3⟩ := PL_p hrp h0
  have hgx : G x = Gp rp := by rw [← hx3]; exact hGM rp hx1 hx2
  have hxx := PL_x hF h0 hrp
  refine lv_aload_n hx hb dX1_mark_0 rfl (lv_at hl 0 rfl) ?_
  refine lv_aload_n hx hb dX1_mark_1 rfl (lv_at hl 0 rfl) ?_
  refine lv_iload_n hx hb dX1_mark_2 rfl (lv_at hl 1 rfl) ?_
  have hCP : MP D cI cZ base st Z y0 y1 y2 y3 y6 y7 y8 (n) (came) (MV) (th) (F) (G) (ZN) (SP) (RF) (RC) s s.heap := ⟨hSW0.behind hbl hmb hS, ⟨f, g, z, sp, rf, rc, hAf, hAg, hAz, hAsp, hArf, hArc, hP, hD.weaken (fun _ _ _ h => hmb _ h)⟩⟩
  refine pu_callV (v := 1) (As := [.int (iI (x))]) (rest := [.ref y0]) MP_mv ⟨hx, hb, hml, hown, hts⟩ (c_M_known l D cI cZ base st Z y0 y1 y2 y3 y6 y7 y8 hMI x hxr 1 (kn_1 hMI hF hrp h0).symm) (cwV 1 hts gX1_mark_X1_known rfl rfl rfl (by decide +kernel) ⟨(Nat.le_of_ble_eq_true rfl), (Nat.le_of_ble_eq_true rfl)⟩) hCP (MP_rc hCP) rfl rfl hl.1 (Nat.le_of_ble_eq_true rfl) dX1_mark_3 ⟨Nat.zero_le _, Nat.zero_le _⟩ ?_
  refine pv_if_eq (tgt := 13) hx hb dX1_mark_6 (by decide) (by omega) (fun c_6 => ?_) (fun c_6 => ?_)
  · exact absurd c_6 (by omega)
  · -- 6f
    refine pv_iconst hx hb dX1_mark_9 ?_
    refine lv_goto (tgt := 14) hx hb dX1_mark_10 (by decide) ?_
    refine va_put (D := D) (ci := 1) (v := .int (iI (0))) (ty := .int) (C := RX1) (T := TX1) (N := 10) hx hb hts hin tyX1 tyX1_ok nmX1 hown hK hP hD hS 0 rfl rfl 9 (by decide) q_thrown (fun _ h9 => h9) rfl (by decide +kernel) rfl rfl (Nat.le_of_ble_eq_true rfl) dX1_mark_14 (fun H locs hP hD hS => ?_)
    have hP : va_P D vwCl (W1 cI cZ y0 y1 y2 y3 y6 y7 y8 (n) (came) (MV) (0) f g z sp rf rc) H := hP
    have hD : va_D (mM y0 y1 y2 y3 y6 y7 y8) (W1 cI cZ y0 y1 y2 y3 y6 y7 y8 (n) (came) (MV) (0) f g z sp rf rc) := hD
    refine lv_aload_n hx hb dX1_mark_17 rfl (lv_at hl 0 rfl) ?_
    refine va_get (D := D) (ci := 1) (v := .int (iI (0))) (C := RX1) (T := TX1) (N := 10) hx hb hts hin hown hK hP 0 rfl rfl 9 (by decide) q_thrown (fun _ h9 => h9) rfl dX1_mark_18 ?_
    refine pv_if_le (tgt := 28) hx hb dX1_mark_21 (by decide) (by omega) (fun c_21 => ?_) (fun c_21 => ?_)
    · -- 21t
      refine lv_aload_n hx hb dX1_mark_28 rfl (lv_at hl 0 rfl) ?_
      refine va_get (D := D) (ci := 1) (v := .ref y2) (C := RX1) (T := TX1) (N := 10) hx hb hts hin hown hK hP 0 rfl rfl 2 (by decide) q_marks (fun _ h9 => h9) rfl dX1_mark_29 ?_
      refine lv_iload_n hx hb dX1_mark_32 rfl (lv_at hl 1 rfl) ?_
      refine pv_iald (i := x) (v := Gp rp) hx hb hK hP 2 0 rfl rfl (by omega) (by decide) ((hAg _ (by omega) (by omega)).trans (congrArg iI hgx)) dX1_mark_33 ?_
      exact mu_iret hx hb hr hlocks hS dX1_mark_34 (by rfl) ⟨G, ZN, hGM, hMI, ⟨f, g, z, sp, rf, rc, hAf, hAg, hAz, hAsp, hArf, hArc, hP, hD.weaken (fun _ _ _ h => hmb _ h)⟩⟩
    · exact absurd c_21 (by omega)
set_option maxHeartbeats 4000000 in
set_option maxRecDepth 100000 in
theorem d_M_mark (l : Launch) (D : va_G) (cI cZ : ClassId) (base st : Nat) (Z : Nat → Nat) (y0 y1 y2 y3 y6 y7 y8 : Nat) {n came MV th : Int} {F Gp SP RF RC : Int → Int} (x : Int) (hxr : (-2147483648 ≤ x ∧ x ≤ 2147483647)) (hrp : PL F n x (-1)) : mu_M l yX1_mark wsX1_mark ({ frames := 1, cells := 0, slots := 0, locals := 21 } : Room) [.ref y0, .int (iI (x))] (AP D cI cZ base st Z y0 y1 y2 y3 y6 y7 y8 n came MV th F Gp SP RF RC) (some (.int (iI (0)))) (fun H => MA D cI cZ base y0 y1 y2 y3 y6 y7 y8 (n) (came) (MV) (1) (F) (Gp) (SP) (RF) (RC) H) (mM y0 y1 y2 y3 y6 y7 y8) := by
  refine mu_of (cc := cX1_mark) (maxL := 2) (ret := (some .int)) (own := RX1) (by decide) rfl rfl (Nat.le_of_ble_eq_true rfl) ?_
  intro p e s m below meth c ls B hCP hl hS
  obtain ⟨hx, hb, hml, hr, hts, hown, hlocks⟩ := B
  obtain ⟨hSWs, G, ZN, hGM, hMI, hMW⟩ := id hCP
  obtain ⟨hK, hZL, ⟨hstb, xs, hXL, hAL⟩, hTW⟩ := id hSWs
  obtain ⟨f, g, z, sp, rf, rc, hAf, hAg, hAz, hAsp, hArf, hArc, hP, hDb⟩ := id hMW
  have hD := MW_mD hDb
  have hmb := mM_b hDb
  have hbl := MW_lt hMW
  have hSW0 := hSWs
  have hl : lv_has ls 2 [(0, .ref y0), (1, .int (iI (x)))] := hl
  have hin : ∀ w ∈ u_ws RX1 TX1 10, w ∈ wsX1_mark := by decide +kernel
  have q_thrown := hts (.fieldLink RX1 29 "ShelfMarksModel" "thrown" "I") (by decide +kernel)
  refine lv_aload_n hx hb dX1_mark_0 rfl (lv_at hl 0 rfl) ?_
  refine lv_aload_n hx hb dX1_mark_1 rfl (lv_at hl 0 rfl) ?_
  refine lv_iload_n hx hb dX1_mark_2 rfl (lv_at hl 1 rfl) ?_
  have hCP : MP D cI cZ base st Z y0 y1 y2 y3 y6 y7 y8 (n) (came) (MV) (th) (F) (G) (ZN) (SP) (RF) (RC) s s.heap := ⟨hSW0.behind hbl hmb hS, ⟨f, g, z, sp, rf, rc, hAf, hAg, hAz, hAsp, hArf, hArc, hP, hD.weaken (fun _ _ _ h => hmb _ h)⟩⟩
  refine pu_callV (v := 0) (As := [.int (iI (x))]) (rest := [.ref y0]) MP_mv ⟨hx, hb, hml, hown, hts⟩ (c_M_known l D cI cZ base st Z y0 y1 y2 y3 y6 y7 y8 hMI x hxr 0 (kn_0 hMI hrp).symm) (cwV 1 hts gX1_mark_X1_known rfl rfl rfl (by decide +kernel) ⟨(Nat.le_of_ble_eq_true rfl), (Nat.le_of_ble_eq_true rfl)⟩) hCP (MP_rc hCP) rfl rfl hl.1 (Nat.le_of_ble_eq_true rfl) dX1_mark_3 ⟨Nat.zero_le _, Nat.zero_le _⟩ ?_
  refine pv_if_eq (tgt := 13) hx hb dX1_mark_6 (by decide) (by omega) (fun c_6 => ?_) (fun c_6 => ?_)
  · -- 6t
    refine pv_iconst hx hb dX1_mark_13 ?_
    refine va_put (D := D) (ci := 1) (v := .int (iI (1))) (ty := .int) (C := RX1) (T := TX1) (N := 10) hx hb hts hin tyX1 tyX1_ok nmX1 hown hK hP hD hS 0 rfl rfl 9 (by decide) q_thrown (fun _ h9 => h9) rfl (by decide +kernel) rfl rfl (Nat.le_of_ble_eq_true rfl) dX1_mark_14 (fun H locs hP hD hS => ?_)
    have hP : va_P D vwCl (W1 cI cZ y0 y1 y2 y3 y6 y7 y8 (n) (came) (MV) (1) f g z sp rf rc) H := hP
    have hD : va_D (mM y0 y1 y2 y3 y6 y7 y8) (W1 cI cZ y0 y1 y2 y3 y6 y7 y8 (n) (came) (MV) (1) f g z sp rf rc) := hD
    refine lv_aload_n hx hb dX1_mark_17 rfl (lv_at hl 0 rfl) ?_
    refine va_get (D := D) (ci := 1) (v := .int (iI (1))) (C := RX1) (T := TX1) (N := 10) hx hb hts hin hown hK hP 0 rfl rfl 9 (by decide) q_thrown (fun _ h9 => h9) rfl dX1_mark_18 ?_
    refine pv_if_le (tgt := 28) hx hb dX1_mark_21 (by decide) (by omega) (fun c_21 => ?_) (fun c_21 => ?_)
    · exact absurd c_21 (by omega)
    · -- 21f
      refine pv_iconst hx hb dX1_mark_24 ?_
      refine lv_goto (tgt := 34) hx hb dX1_mark_25 (by decide) ?_
      exact mu_iret hx hb hr hlocks hS dX1_mark_34 (by rfl) ⟨G, ZN, hGM, hMI, ⟨f, g, z, sp, rf, rc, hAf, hAg, hAz, hAsp, hArf, hArc, hP, hD.weaken (fun _ _ _ h => hmb _ h)⟩⟩
  · exact absurd c_6 (by omega)
set_option maxHeartbeats 4000000 in
set_option maxRecDepth 100000 in
theorem c_M_ahead (l : Launch) (D : va_G) (cI cZ : ClassId) (base st : Nat) (Z : Nat → Nat) (y0 y1 y2 y3 y6 y7 y8 : Nat) {n came MV th : Int} {F Gp SP RF RC : Int → Int} (hn : 0 ≤ n ∧ n ≤ 60) (hF : ∀ k : Int, 0 ≤ k → k < n → 0 ≤ F k ∧ F k < 200) (x : Int) (hxr : (-2147483648 ≤ x ∧ x ≤ 2147483647)) (rp : Int) (hrp : PL F n x rp) (h0 : 0 ≤ rp) (hG : ∀ k : Int, 0 ≤ k → k < n → 0 ≤ Gp k ∧ Gp k ≤ 255) (hs : SD Gp n) : mu_M l yX1_ahead wsX1_ahead ({ frames := 1, cells := 0, slots := 0, locals := 24 } : Room) [.ref y0, .int (iI (x))] (AP D cI cZ base st Z y0 y1 y2 y3 y6 y7 y8 n came MV th F Gp SP RF RC) (some (.int (iI (mb Gp n (Gp rp))))) (fun H => MA D cI cZ base y0 y1 y2 y3 y6 y7 y8 (n) (came) (MV) (0) (F) (Gp) (SP) (RF) (RC) H) (mM y0 y1 y2 y3 y6 y7 y8) := by
  refine mu_of (cc := cX1_ahead) (maxL := 2) (ret := (some .int)) (own := RX1) (by decide) rfl rfl (Nat.le_of_ble_eq_true rfl) ?_
  intro p e s m below meth c ls B hCP hl hS
  obtain ⟨hx, hb, hml, hr, hts, hown, hlocks⟩ := B
  obtain ⟨hSWs, G, ZN, hGM, hMI, hMW⟩ := id hCP
  obtain ⟨hK, hZL, ⟨hstb, xs, hXL, hAL⟩, hTW⟩ := id hSWs
  obtain ⟨f, g, z, sp, rf, rc, hAf, hAg, hAz, hAsp, hArf, hArc, hP, hDb⟩ := id hMW
  have hD := MW_mD hDb
  have hmb := mM_b hDb
  have hbl := MW_lt hMW
  have hSW0 := hSWs
  have hl : lv_has ls 2 [(0, .ref y0), (1, .int (iI (x)))] := hl
  have hin : ∀ w ∈ u_ws RX1 TX1 10, w ∈ wsX1_ahead := by decide +kernel
  have q_marks := hts (.fieldLink RX1 13 "ShelfMarksModel" "marks" "[I") (by decide +kernel)
  have q_thrown := hts (.fieldLink RX1 29 "ShelfMarksModel" "thrown" "I") (by decide +kernel)
  obtain ⟨hx1, hx2, hx3⟩ := PL_p hrp h0
  have hgx : G x = Gp rp := by rw [← hx3]; exact hGM rp hx1 hx2
  have hxx := PL_x hF h0 hrp
  refine lv_aload_n hx hb dX1_ahead_0 rfl (lv_at hl 0 rfl) ?_
  refine lv_aload_n hx hb dX1_ahead_1 rfl (lv_at hl 0 rfl) ?_
  refine lv_iload_n hx hb dX1_ahead_2 rfl (lv_at hl 1 rfl) ?_
  have hCP : MP D cI cZ base st Z y0 y1 y2 y3 y6 y7 y8 (n) (came) (MV) (th) (F) (G) (ZN) (SP) (RF) (RC) s s.heap := ⟨hSW0.behind hbl hmb hS, ⟨f, g, z, sp, rf, rc, hAf, hAg, hAz, hAsp, hArf, hArc, hP, hD.weaken (fun _ _ _ h => hmb _ h)⟩⟩
  refine pu_callV (v := 1) (As := [.int (iI (x))]) (rest := [.ref y0]) MP_mv ⟨hx, hb, hml, hown, hts⟩ (c_M_known l D cI cZ base st Z y0 y1 y2 y3 y6 y7 y8 hMI x hxr 1 (kn_1 hMI hF hrp h0).symm) (cwV 1 hts gX1_ahead_X1_known rfl rfl rfl (by decide +kernel) ⟨(Nat.le_of_ble_eq_true rfl), (Nat.le_of_ble_eq_true rfl)⟩) hCP (MP_rc hCP) rfl rfl hl.1 (Nat.le_of_ble_eq_true rfl) dX1_ahead_3 ⟨Nat.zero_le _, Nat.zero_le _⟩ ?_
  refine pv_if_eq (tgt := 13) hx hb dX1_ahead_6 (by decide) (by omega) (fun c_6 => ?_) (fun c_6 => ?_)
  · exact absurd c_6 (by omega)
  · -- 6f
    refine pv_iconst hx hb dX1_ahead_9 ?_
    refine lv_goto (tgt := 14) hx hb dX1_ahead_10 (by decide) ?_
    refine va_put (D := D) (ci := 1) (v := .int (iI (0))) (ty := .int) (C := RX1) (T := TX1) (N := 10) hx hb hts hin tyX1 tyX1_ok nmX1 hown hK hP hD hS 0 rfl rfl 9 (by decide) q_thrown (fun _ h9 => h9) rfl (by decide +kernel) rfl rfl (Nat.le_of_ble_eq_true rfl) dX1_ahead_14 (fun H locs hP hD hS => ?_)
    have hP : va_P D vwCl (W1 cI cZ y0 y1 y2 y3 y6 y7 y8 (n) (came) (MV) (0) f g z sp rf rc) H := hP
    have hD : va_D (mM y0 y1 y2 y3 y6 y7 y8) (W1 cI cZ y0 y1 y2 y3 y6 y7 y8 (n) (came) (MV) (0) f g z sp rf rc) := hD
    refine lv_aload_n hx hb dX1_ahead_17 rfl (lv_at hl 0 rfl) ?_
    refine va_get (D := D) (ci := 1) (v := .int (iI (0))) (C := RX1) (T := TX1) (N := 10) hx hb hts hin hown hK hP 0 rfl rfl 9 (by decide) q_thrown (fun _ h9 => h9) rfl dX1_ahead_18 ?_
    refine pv_if_le (tgt := 28) hx hb dX1_ahead_21 (by decide) (by omega) (fun c_21 => ?_) (fun c_21 => ?_)
    · -- 21t
      refine lv_aload_n hx hb dX1_ahead_28 rfl (lv_at hl 0 rfl) ?_
      refine pv_iconst hx hb dX1_ahead_29 ?_
      refine lv_aload_n hx hb dX1_ahead_30 rfl (lv_at hl 0 rfl) ?_
      refine va_get (D := D) (ci := 1) (v := .ref y2) (C := RX1) (T := TX1) (N := 10) hx hb hts hin hown hK hP 0 rfl rfl 2 (by decide) q_marks (fun _ h9 => h9) rfl dX1_ahead_31 ?_
      refine lv_iload_n hx hb dX1_ahead_34 rfl (lv_at hl 1 rfl) ?_
      refine pv_iald (i := x) (v := Gp rp) hx hb hK hP 2 0 rfl rfl (by omega) (by decide) ((hAg _ (by omega) (by omega)).trans (congrArg iI hgx)) dX1_ahead_35 ?_
      have hgp := hG rp hx1 hx2
      have hCP : MP D cI cZ base st Z y0 y1 y2 y3 y6 y7 y8 (n) (came) (MV) (0) (F) (G) (ZN) (SP) (RF) (RC) s H := ⟨hSW0.behind hbl hmb hS, ⟨f, g, z, sp, rf, rc, hAf, hAg, hAz, hAsp, hArf, hArc, hP, hD.weaken (fun _ _ _ h => hmb _ h)⟩⟩
      refine pu_callV (v := mb Gp n (Gp rp)) (As := [.int (iI (0)), .int (iI (Gp rp))]) (rest := []) MP_mv ⟨hx, hb, hml, hown, hts⟩ (c_M_between l D cI cZ base st Z y0 y1 y2 y3 y6 y7 y8 hn hF Gp hGM hG _ _ (by omega) (by omega) _ (by rw [bt_mb Gp n 0 (Gp rp) hgp.1, mb_0 hG]; omega)) (cwV 2 hts gX1_ahead_X1_between rfl rfl rfl (by decide +kernel) ⟨(Nat.le_of_ble_eq_true rfl), (Nat.le_of_ble_eq_true rfl)⟩) hCP (MP_rc hCP) rfl rfl hl.1 (Nat.le_of_ble_eq_true rfl) dX1_ahead_36 ⟨Nat.zero_le _, Nat.zero_le _⟩ ?_
      exact mu_iret hx hb hr hlocks hS dX1_ahead_39 (by rfl) ⟨G, ZN, hGM, hMI, ⟨f, g, z, sp, rf, rc, hAf, hAg, hAz, hAsp, hArf, hArc, hP, hD.weaken (fun _ _ _ h => hmb _ h)⟩⟩
    · exact absurd c_21 (by omega)
set_option maxHeartbeats 4000000 in
set_option maxRecDepth 100000 in
theorem d_M_ahead (l : Launch) (D : va_G) (cI cZ : ClassId) (base st : Nat) (Z : Nat → Nat) (y0 y1 y2 y3 y6 y7 y8 : Nat) {n came MV th : Int} {F Gp SP RF RC : Int → Int} (x : Int) (hxr : (-2147483648 ≤ x ∧ x ≤ 2147483647)) (hrp : PL F n x (-1)) : mu_M l yX1_ahead wsX1_ahead ({ frames := 1, cells := 0, slots := 0, locals := 21 } : Room) [.ref y0, .int (iI (x))] (AP D cI cZ base st Z y0 y1 y2 y3 y6 y7 y8 n came MV th F Gp SP RF RC) (some (.int (iI (0)))) (fun H => MA D cI cZ base y0 y1 y2 y3 y6 y7 y8 (n) (came) (MV) (1) (F) (Gp) (SP) (RF) (RC) H) (mM y0 y1 y2 y3 y6 y7 y8) := by
  refine mu_of (cc := cX1_ahead) (maxL := 2) (ret := (some .int)) (own := RX1) (by decide) rfl rfl (Nat.le_of_ble_eq_true rfl) ?_
  intro p e s m below meth c ls B hCP hl hS
  obtain ⟨hx, hb, hml, hr, hts, hown, hlocks⟩ := B
  obtain ⟨hSWs, G, ZN, hGM, hMI, hMW⟩ := id hCP
  obtain ⟨hK, hZL, ⟨hstb, xs, hXL, hAL⟩, hTW⟩ := id hSWs
  obtain ⟨f, g, z, sp, rf, rc, hAf, hAg, hAz, hAsp, hArf, hArc, hP, hDb⟩ := id hMW
  have hD := MW_mD hDb
  have hmb := mM_b hDb
  have hbl := MW_lt hMW
  have hSW0 := hSWs
  have hl : lv_has ls 2 [(0, .ref y0), (1, .int (iI (x)))] := hl
  have hin : ∀ w ∈ u_ws RX1 TX1 10, w ∈ wsX1_ahead := by decide +kernel
  have q_thrown := hts (.fieldLink RX1 29 "ShelfMarksModel" "thrown" "I") (by decide +kernel)
  refine lv_aload_n hx hb dX1_ahead_0 rfl (lv_at hl 0 rfl) ?_
  refine lv_aload_n hx hb dX1_ahead_1 rfl (lv_at hl 0 rfl) ?_
  refine lv_iload_n hx hb dX1_ahead_2 rfl (lv_at hl 1 rfl) ?_
  have hCP : MP D cI cZ base st Z y0 y1 y2 y3 y6 y7 y8 (n) (came) (MV) (th) (F) (G) (ZN) (SP) (RF) (RC) s s.heap := ⟨hSW0.behind hbl hmb hS, ⟨f, g, z, sp, rf, rc, hAf, hAg, hAz, hAsp, hArf, hArc, hP, hD.weaken (fun _ _ _ h => hmb _ h)⟩⟩
  refine pu_callV (v := 0) (As := [.int (iI (x))]) (rest := [.ref y0]) MP_mv ⟨hx, hb, hml, hown, hts⟩ (c_M_known l D cI cZ base st Z y0 y1 y2 y3 y6 y7 y8 hMI x hxr 0 (kn_0 hMI hrp).symm) (cwV 1 hts gX1_ahead_X1_known rfl rfl rfl (by decide +kernel) ⟨(Nat.le_of_ble_eq_true rfl), (Nat.le_of_ble_eq_true rfl)⟩) hCP (MP_rc hCP) rfl rfl hl.1 (Nat.le_of_ble_eq_true rfl) dX1_ahead_3 ⟨Nat.zero_le _, Nat.zero_le _⟩ ?_
  refine pv_if_eq (tgt := 13) hx hb dX1_ahead_6 (by decide) (by omega) (fun c_6 => ?_) (fun c_6 => ?_)
  · -- 6t
    refine pv_iconst hx hb dX1_ahead_13 ?_
    refine va_put (D := D) (ci := 1) (v := .int (iI (1))) (ty := .int) (C := RX1) (T := TX1) (N := 10) hx hb hts hin tyX1 tyX1_ok nmX1 hown hK hP hD hS 0 rfl rfl 9 (by decide) q_thrown (fun _ h9 => h9) rfl (by decide +kernel) rfl rfl (Nat.le_of_ble_eq_true rfl) dX1_ahead_14 (fun H locs hP hD hS => ?_)
    have hP : va_P D vwCl (W1 cI cZ y0 y1 y2 y3 y6 y7 y8 (n) (came) (MV) (1) f g z sp rf rc) H := hP
    have hD : va_D (mM y0 y1 y2 y3 y6 y7 y8) (W1 cI cZ y0 y1 y2 y3 y6 y7 y8 (n) (came) (MV) (1) f g z sp rf rc) := hD
    refine lv_aload_n hx hb dX1_ahead_17 rfl (lv_at hl 0 rfl) ?_
    refine va_get (D := D) (ci := 1) (v := .int (iI (1))) (C := RX1) (T := TX1) (N := 10) hx hb hts hin hown hK hP 0 rfl rfl 9 (by decide) q_thrown (fun _ h9 => h9) rfl dX1_ahead_18 ?_
    refine pv_if_le (tgt := 28) hx hb dX1_ahead_21 (by decide) (by omega) (fun c_21 => ?_) (fun c_21 => ?_)
    · exact absurd c_21 (by omega)
    · -- 21f
      refine pv_iconst hx hb dX1_ahead_24 ?_
      refine lv_goto (tgt := 39) hx hb dX1_ahead_25 (by decide) ?_
      exact mu_iret hx hb hr hlocks hS dX1_ahead_39 (by rfl) ⟨G, ZN, hGM, hMI, ⟨f, g, z, sp, rf, rc, hAf, hAg, hAz, hAsp, hArf, hArc, hP, hD.weaken (fun _ _ _ h => hmb _ h)⟩⟩
  · exact absurd c_6 (by omega)
set_option maxHeartbeats 4000000 in
set_option maxRecDepth 100000 in
theorem c_M_from (l : Launch) (D : va_G) (cI cZ : ClassId) (base st : Nat) (Z : Nat → Nat) (y0 y1 y2 y3 y6 y7 y8 : Nat) {n came MV th : Int} {F Gp SP RF RC : Int → Int} (hn : 0 ≤ n ∧ n ≤ 60) (hF : ∀ k : Int, 0 ≤ k → k < n → 0 ≤ F k ∧ F k < 200) (hG : ∀ k : Int, 0 ≤ k → k < n → 0 ≤ Gp k ∧ Gp k ≤ 255) (hs : SD Gp n) (x : Int) (hxr : (-2147483648 ≤ x ∧ x ≤ 2147483647)) : mu_M l yX1_from wsX1_from ({ frames := 0, cells := 0, slots := 0, locals := 0 } : Room) [.ref y0, .int (iI (x))] (AP D cI cZ base st Z y0 y1 y2 y3 y6 y7 y8 n came MV th F Gp SP RF RC) (some (.int (iI (fa F n (mb Gp n x))))) (fun H => MA D cI cZ base y0 y1 y2 y3 y6 y7 y8 (n) (came) (MV) (0) (F) (Gp) (SP) (RF) (RC) H) (mM y0 y1 y2 y3 y6 y7 y8) := by
  refine mu_of (cc := cX1_from) (maxL := 3) (ret := (some .int)) (own := RX1) (by decide) rfl rfl (Nat.le_of_ble_eq_true rfl) ?_
  intro p e s m below meth c ls B hCP hl hS
  obtain ⟨hx, hb, hml, hr, hts, hown, hlocks⟩ := B
  obtain ⟨hSWs, G, ZN, hGM, hMI, hMW⟩ := id hCP
  obtain ⟨hK, hZL, ⟨hstb, xs, hXL, hAL⟩, hTW⟩ := id hSWs
  obtain ⟨f, g, z, sp, rf, rc, hAf, hAg, hAz, hAsp, hArf, hArc, hP, hDb⟩ := id hMW
  have hD := MW_mD hDb
  have hmb := mM_b hDb
  have hbl := MW_lt hMW
  have hSW0 := hSWs
  have hl : lv_has ls 3 [(0, .ref y0), (1, .int (iI (x)))] := hl
  have hin : ∀ w ∈ u_ws RX1 TX1 10, w ∈ wsX1_from := by decide +kernel
  have q_order := hts (.fieldLink RX1 7 "ShelfMarksModel" "order" "[I") (by decide +kernel)
  have q_marks := hts (.fieldLink RX1 13 "ShelfMarksModel" "marks" "[I") (by decide +kernel)
  have q_thrown := hts (.fieldLink RX1 29 "ShelfMarksModel" "thrown" "I") (by decide +kernel)
  have q_size := hts (.fieldLink RX1 36 "ShelfMarksModel" "size" "I") (by decide +kernel)
  refine lv_aload_n hx hb dX1_from_0 rfl (lv_at hl 0 rfl) ?_
  refine pv_iconst hx hb dX1_from_1 ?_
  refine va_put (D := D) (ci := 1) (v := .int (iI (0))) (ty := .int) (C := RX1) (T := TX1) (N := 10) hx hb hts hin tyX1 tyX1_ok nmX1 hown hK hP hD hS 0 rfl rfl 9 (by decide) q_thrown (fun _ h9 => h9) rfl (by decide +kernel) rfl rfl (Nat.le_of_ble_eq_true rfl) dX1_from_2 (fun H locs hP hD hS => ?_)
  have hP : va_P D vwCl (W1 cI cZ y0 y1 y2 y3 y6 y7 y8 (n) (came) (MV) (0) f g z sp rf rc) H := hP
  have hD : va_D (mM y0 y1 y2 y3 y6 y7 y8) (W1 cI cZ y0 y1 y2 y3 y6 y7 y8 (n) (came) (MV) (0) f g z sp rf rc) := hD
  refine pv_iconst hx hb dX1_from_5 ?_
  refine lv_istore_n (lv' := [(2, .int (iI (0))), (0, .ref y0), (1, .int (iI (x)))]) hx hb dX1_from_6 rfl hl (by decide) rfl (fun ls hl => ?_)
  have hloop7 : ∀ (fuel : Nat) (k : Int) (H : Heap) (locs : List Loc) (ls : Array Slot), (n - k) < fuel → (0 ≤ k ∧ k ≤ n) → (∀ j : Int, 0 ≤ j → j < k → Gp j < x) → MW D cI cZ base y0 y1 y2 y3 y6 y7 y8 (n) (came) (MV) (0) (F) (G) (ZN) (SP) (RF) (RC) H → va_S (mM y0 y1 y2 y3 y6 y7 y8) s.heap H locs → lv_has ls 3 [(0, .ref y0), (1, .int (iI (x))), (2, .int (iI (k)))] → W p l e ({ frames := 0, cells := 0, slots := 0, locals := 0 } : Room) s m ([.ref y0, .int (iI (x))] : List Value).toArray below meth c H locs 0 0 (MQ below (mu_Q (some (.int (iI (fa F n (mb Gp n x))))) (fun H => MA D cI cZ base y0 y1 y2 y3 y6 y7 y8 (n) (came) (MV) (0) (F) (Gp) (SP) (RF) (RC) H) (mM y0 y1 y2 y3 y6 y7 y8)) ([.ref y0, .int (iI (x))] : List Value).toArray s 0 0 (mM y0 y1 y2 y3 y6 y7 y8)) (F0 m 7 ls []) := by
    intro fuel
    induction fuel with
    | zero => intro k H locs ls hfu hk hno hC9 hS hl; exfalso; omega
    | succ fuel ih =>
      intro k H locs ls hfu hk hno hC9 hS hl
      obtain ⟨f, g, z, sp, rf, rc, hAf, hAg, hAz, hAsp, hArf, hArc, hP, hDb⟩ := hC9
      have hD := MW_mD hDb
      refine lv_iload_n hx hb dX1_from_7 rfl (lv_at hl 2 rfl) ?_
      refine lv_aload_n hx hb dX1_from_8 rfl (lv_at hl 0 rfl) ?_
      refine va_get (D := D) (ci := 1) (v := .int (iI (n))) (C := RX1) (T := TX1) (N := 10) hx hb hts hin hown hK hP 0 rfl rfl 1 (by decide) q_size (fun _ h9 => h9) rfl dX1_from_9 ?_
      refine pv_icmp_ge (tgt := 43) hx hb dX1_from_12 (by decide) (by omega) (fun c_12 => ?_) (fun c_12 => ?_)
      · -- 12t
        refine pv_iconst hx hb dX1_from_43 ?_
        exact mu_iret hx hb hr hlocks hS dX1_from_44 (by rw [FI_un (mb_FI x hn.1 hs) (⟨by omega, hno, fun h => by omega⟩ : FI Gp n x k)]; unfold fa; rw [if_neg (by omega)]) ⟨G, ZN, hGM, hMI, ⟨f, g, z, sp, rf, rc, hAf, hAg, hAz, hAsp, hArf, hArc, hP, hD.weaken (fun _ _ _ h => hmb _ h)⟩⟩
      · -- 12f
        refine lv_aload_n hx hb dX1_from_15 rfl (lv_at hl 0 rfl) ?_
        refine va_get (D := D) (ci := 1) (v := .ref y2) (C := RX1) (T := TX1) (N := 10) hx hb hts hin hown hK hP 0 rfl rfl 2 (by decide) q_marks (fun _ h9 => h9) rfl dX1_from_16 ?_
        refine lv_aload_n hx hb dX1_from_19 rfl (lv_at hl 0 rfl) ?_
        refine va_get (D := D) (ci := 1) (v := .ref y1) (C := RX1) (T := TX1) (N := 10) hx hb hts hin hown hK hP 0 rfl rfl 0 (by decide) q_order (fun _ h9 => h9) rfl dX1_from_20 ?_
        refine lv_iload_n hx hb dX1_from_23 rfl (lv_at hl 2 rfl) ?_
        refine pv_iald (i := k) (v := F (k)) hx hb hK hP 1 0 rfl rfl (by omega) (by decide) (hAf _ (by omega) (by omega)) dX1_from_24 ?_
        have hfk := hF k (by omega) (by omega)
        refine pv_iald (i := F (k)) (v := Gp (k)) hx hb hK hP 2 0 rfl rfl (by omega) (by decide) ((hAg _ (by omega) (by omega)).trans (congrArg iI (hGM _ (by omega) (by omega)))) dX1_from_25 ?_
        have hgk := hG k (by omega) (by omega)
        refine lv_iload_n hx hb dX1_from_26 rfl (lv_at hl 1 rfl) ?_
        refine pv_icmp_lt (tgt := 37) hx hb dX1_from_27 (by decide) (by omega) (fun c_27 => ?_) (fun c_27 => ?_)
        · -- 27t
          refine pv_iinc (lv' := [(2, .int (iI (k + 1))), (0, .ref y0), (1, .int (iI (x)))]) hx hb dX1_from_37 hl (k := 2) rfl (by decide) rfl (fun ls hl => ?_)
          refine lv_goto (tgt := 7) hx hb dX1_from_40 (by decide) ?_
          exact ih (k + 1) _ _ ls (by omega) (by omega) (fun j h0 h1 => by rcases (show j < k ∨ j = k by omega) with h | h; exact hno j h0 h; rw [h]; exact c_27) ⟨f, g, z, sp, rf, rc, hAf, hAg, hAz, hAsp, hArf, hArc, hP, hD.weaken (fun _ _ _ h => hmb _ h)⟩ hS (lv_sub hl [1, 2, 0] rfl)
        · -- 27f
          refine lv_aload_n hx hb dX1_from_30 rfl (lv_at hl 0 rfl) ?_
          refine va_get (D := D) (ci := 1) (v := .ref y1) (C := RX1) (T := TX1) (N := 10) hx hb hts hin hown hK hP 0 rfl rfl 0 (by decide) q_order (fun _ h9 => h9) rfl dX1_from_31 ?_
          refine lv_iload_n hx hb dX1_from_34 rfl (lv_at hl 2 rfl) ?_
          refine pv_iald (i := k) (v := F (k)) hx hb hK hP 1 0 rfl rfl (by omega) (by decide) (hAf _ (by omega) (by omega)) dX1_from_35 ?_
          exact mu_iret hx hb hr hlocks hS dX1_from_36 (by rw [FI_un (mb_FI x hn.1 hs) (⟨by omega, hno, fun h => c_27⟩ : FI Gp n x k)]; unfold fa; rw [if_pos (by omega)]) ⟨G, ZN, hGM, hMI, ⟨f, g, z, sp, rf, rc, hAf, hAg, hAz, hAsp, hArf, hArc, hP, hD.weaken (fun _ _ _ h => hmb _ h)⟩⟩
  exact hloop7 ((n : Int).toNat + 1) (0) _ _ ls (by omega) (by omega) (fun j h0 h1 => absurd h1 (by omega)) ⟨f, g, z, sp, rf, rc, hAf, hAg, hAz, hAsp, hArf, hArc, hP, hD.weaken (fun _ _ _ h => hmb _ h)⟩ hS (lv_sub hl [1, 2, 0] rfl)
set_option maxHeartbeats 4000000 in
set_option maxRecDepth 100000 in
theorem c_M_gapBehind (l : Launch) (D : va_G) (cI cZ : ClassId) (base st : Nat) (Z : Nat → Nat) (y0 y1 y2 y3 y6 y7 y8 : Nat) {n came MV th : Int} {F Gp SP RF RC : Int → Int} (hn : 0 ≤ n ∧ n ≤ 60) (hF : ∀ k : Int, 0 ≤ k → k < n → 0 ≤ F k ∧ F k < 200) (x : Int) (hxr : (-2147483648 ≤ x ∧ x ≤ 2147483647)) (rp : Int) (hrp : PL F n x rp) (h0 : 0 ≤ rp) (hG : ∀ k : Int, 0 ≤ k → k < n → 0 ≤ Gp k ∧ Gp k ≤ 255) : mu_M l yX1_gapBehind wsX1_gapBehind ({ frames := 1, cells := 0, slots := 0, locals := 22 } : Room) [.ref y0, .int (iI (x))] (AP D cI cZ base st Z y0 y1 y2 y3 y6 y7 y8 n came MV th F Gp SP RF RC) (some (.int (iI (ma Gp n (rp + 1) - Gp rp - 1)))) (fun H => MA D cI cZ base y0 y1 y2 y3 y6 y7 y8 (n) (came) (MV) (0) (F) (Gp) (SP) (RF) (RC) H) (mM y0 y1 y2 y3 y6 y7 y8) := by
  refine mu_of (cc := cX1_gapBehind) (maxL := 2) (ret := (some .int)) (own := RX1) (by decide) rfl rfl (Nat.le_of_ble_eq_true rfl) ?_
  intro p e s m below meth c ls B hCP hl hS
  obtain ⟨hx, hb, hml, hr, hts, hown, hlocks⟩ := B
  obtain ⟨hSWs, G, ZN, hGM, hMI, hMW⟩ := id hCP
  obtain ⟨hK, hZL, ⟨hstb, xs, hXL, hAL⟩, hTW⟩ := id hSWs
  obtain ⟨f, g, z, sp, rf, rc, hAf, hAg, hAz, hAsp, hArf, hArc, hP, hDb⟩ := id hMW
  have hD := MW_mD hDb
  have hmb := mM_b hDb
  have hbl := MW_lt hMW
  have hSW0 := hSWs
  have hl : lv_has ls 2 [(0, .ref y0), (1, .int (iI (x)))] := hl
  have hin : ∀ w ∈ u_ws RX1 TX1 10, w ∈ wsX1_gapBehind := by decide +kernel
  have q_marks := hts (.fieldLink RX1 13 "ShelfMarksModel" "marks" "[I") (by decide +kernel)
  have q_thrown := hts (.fieldLink RX1 29 "ShelfMarksModel" "thrown" "I") (by decide +kernel)
  obtain ⟨hx1, hx2, hx3⟩ := PL_p hrp h0
  have hgx : G x = Gp rp := by rw [← hx3]; exact hGM rp hx1 hx2
  have hxx := PL_x hF h0 hrp
  refine lv_aload_n hx hb dX1_gapBehind_0 rfl (lv_at hl 0 rfl) ?_
  refine lv_aload_n hx hb dX1_gapBehind_1 rfl (lv_at hl 0 rfl) ?_
  refine lv_iload_n hx hb dX1_gapBehind_2 rfl (lv_at hl 1 rfl) ?_
  have hCP : MP D cI cZ base st Z y0 y1 y2 y3 y6 y7 y8 (n) (came) (MV) (th) (F) (G) (ZN) (SP) (RF) (RC) s s.heap := ⟨hSW0.behind hbl hmb hS, ⟨f, g, z, sp, rf, rc, hAf, hAg, hAz, hAsp, hArf, hArc, hP, hD.weaken (fun _ _ _ h => hmb _ h)⟩⟩
  refine pu_callV (v := 1) (As := [.int (iI (x))]) (rest := [.ref y0]) MP_mv ⟨hx, hb, hml, hown, hts⟩ (c_M_known l D cI cZ base st Z y0 y1 y2 y3 y6 y7 y8 hMI x hxr 1 (kn_1 hMI hF hrp h0).symm) (cwV 1 hts gX1_gapBehind_X1_known rfl rfl rfl (by decide +kernel) ⟨(Nat.le_of_ble_eq_true rfl), (Nat.le_of_ble_eq_true rfl)⟩) hCP (MP_rc hCP) rfl rfl hl.1 (Nat.le_of_ble_eq_true rfl) dX1_gapBehind_3 ⟨Nat.zero_le _, Nat.zero_le _⟩ ?_
  refine pv_if_eq (tgt := 13) hx hb dX1_gapBehind_6 (by decide) (by omega) (fun c_6 => ?_) (fun c_6 => ?_)
  · exact absurd c_6 (by omega)
  · -- 6f
    refine pv_iconst hx hb dX1_gapBehind_9 ?_
    refine lv_goto (tgt := 14) hx hb dX1_gapBehind_10 (by decide) ?_
    refine va_put (D := D) (ci := 1) (v := .int (iI (0))) (ty := .int) (C := RX1) (T := TX1) (N := 10) hx hb hts hin tyX1 tyX1_ok nmX1 hown hK hP hD hS 0 rfl rfl 9 (by decide) q_thrown (fun _ h9 => h9) rfl (by decide +kernel) rfl rfl (Nat.le_of_ble_eq_true rfl) dX1_gapBehind_14 (fun H locs hP hD hS => ?_)
    have hP : va_P D vwCl (W1 cI cZ y0 y1 y2 y3 y6 y7 y8 (n) (came) (MV) (0) f g z sp rf rc) H := hP
    have hD : va_D (mM y0 y1 y2 y3 y6 y7 y8) (W1 cI cZ y0 y1 y2 y3 y6 y7 y8 (n) (came) (MV) (0) f g z sp rf rc) := hD
    refine lv_aload_n hx hb dX1_gapBehind_17 rfl (lv_at hl 0 rfl) ?_
    refine va_get (D := D) (ci := 1) (v := .int (iI (0))) (C := RX1) (T := TX1) (N := 10) hx hb hts hin hown hK hP 0 rfl rfl 9 (by decide) q_thrown (fun _ h9 => h9) rfl dX1_gapBehind_18 ?_
    refine pv_if_le (tgt := 28) hx hb dX1_gapBehind_21 (by decide) (by omega) (fun c_21 => ?_) (fun c_21 => ?_)
    · -- 21t
      refine lv_aload_n hx hb dX1_gapBehind_28 rfl (lv_at hl 0 rfl) ?_
      refine lv_aload_n hx hb dX1_gapBehind_29 rfl (lv_at hl 0 rfl) ?_
      refine lv_iload_n hx hb dX1_gapBehind_30 rfl (lv_at hl 1 rfl) ?_
      have hCP : MP D cI cZ base st Z y0 y1 y2 y3 y6 y7 y8 (n) (came) (MV) (0) (F) (G) (ZN) (SP) (RF) (RC) s H := ⟨hSW0.behind hbl hmb hS, ⟨f, g, z, sp, rf, rc, hAf, hAg, hAz, hAsp, hArf, hArc, hP, hD.weaken (fun _ _ _ h => hmb _ h)⟩⟩
      refine pu_callV (v := rp) (As := [.int (iI (x))]) (rest := [.ref y0]) MP_mv ⟨hx, hb, hml, hown, hts⟩ (c_M_place l D cI cZ base st Z y0 y1 y2 y3 y6 y7 y8 hn hF x hxr rp hrp h0) (cwV 1 hts gX1_gapBehind_X1_place rfl rfl rfl (by decide +kernel) ⟨(Nat.le_of_ble_eq_true rfl), (Nat.le_of_ble_eq_true rfl)⟩) hCP (MP_rc hCP) rfl rfl hl.1 (Nat.le_of_ble_eq_true rfl) dX1_gapBehind_31 ⟨Nat.zero_le _, Nat.zero_le _⟩ ?_
      refine pv_iconst hx hb dX1_gapBehind_34 ?_
      refine pv_iadd hx hb dX1_gapBehind_35 ?_
      have hCP : MP D cI cZ base st Z y0 y1 y2 y3 y6 y7 y8 (n) (came) (MV) (0) (F) (G) (ZN) (SP) (RF) (RC) s H := ⟨hSW0.behind hbl hmb hS, ⟨f, g, z, sp, rf, rc, hAf, hAg, hAz, hAsp, hArf, hArc, hP, hD.weaken (fun _ _ _ h => hmb _ h)⟩⟩
      refine pu_callV (v := ma Gp n (rp + 1)) (As := [.int (iI ((rp) + (1)))]) (rest := []) MP_mv ⟨hx, hb, hml, hown, hts⟩ (c_M_markBehind l D cI cZ base st Z y0 y1 y2 y3 y6 y7 y8 hn hF Gp hGM (rp + 1) (by omega) _ rfl) (cwV 1 hts gX1_gapBehind_X1_markBehind rfl rfl rfl (by decide +kernel) ⟨(Nat.le_of_ble_eq_true rfl), (Nat.le_of_ble_eq_true rfl)⟩) hCP (MP_rc hCP) rfl rfl hl.1 (Nat.le_of_ble_eq_true rfl) dX1_gapBehind_36 ⟨Nat.zero_le _, Nat.zero_le _⟩ ?_
      refine lv_aload_n hx hb dX1_gapBehind_39 rfl (lv_at hl 0 rfl) ?_
      refine va_get (D := D) (ci := 1) (v := .ref y2) (C := RX1) (T := TX1) (N := 10) hx hb hts hin hown hK hP 0 rfl rfl 2 (by decide) q_marks (fun _ h9 => h9) rfl dX1_gapBehind_40 ?_
      refine lv_iload_n hx hb dX1_gapBehind_43 rfl (lv_at hl 1 rfl) ?_
      refine pv_iald (i := x) (v := Gp rp) hx hb hK hP 2 0 rfl rfl (by omega) (by decide) ((hAg _ (by omega) (by omega)).trans (congrArg iI hgx)) dX1_gapBehind_44 ?_
      refine pv_isub hx hb dX1_gapBehind_45 ?_
      refine pv_iconst hx hb dX1_gapBehind_46 ?_
      refine pv_isub hx hb dX1_gapBehind_47 ?_
      exact mu_iret hx hb hr hlocks hS dX1_gapBehind_48 (by rfl) ⟨G, ZN, hGM, hMI, ⟨f, g, z, sp, rf, rc, hAf, hAg, hAz, hAsp, hArf, hArc, hP, hD.weaken (fun _ _ _ h => hmb _ h)⟩⟩
    · exact absurd c_21 (by omega)
set_option maxHeartbeats 4000000 in
set_option maxRecDepth 100000 in
theorem d_M_gapBehind (l : Launch) (D : va_G) (cI cZ : ClassId) (base st : Nat) (Z : Nat → Nat) (y0 y1 y2 y3 y6 y7 y8 : Nat) {n came MV th : Int} {F Gp SP RF RC : Int → Int} (x : Int) (hxr : (-2147483648 ≤ x ∧ x ≤ 2147483647)) (hrp : PL F n x (-1)) : mu_M l yX1_gapBehind wsX1_gapBehind ({ frames := 1, cells := 0, slots := 0, locals := 21 } : Room) [.ref y0, .int (iI (x))] (AP D cI cZ base st Z y0 y1 y2 y3 y6 y7 y8 n came MV th F Gp SP RF RC) (some (.int (iI (0)))) (fun H => MA D cI cZ base y0 y1 y2 y3 y6 y7 y8 (n) (came) (MV) (1) (F) (Gp) (SP) (RF) (RC) H) (mM y0 y1 y2 y3 y6 y7 y8) := by
  refine mu_of (cc := cX1_gapBehind) (maxL := 2) (ret := (some .int)) (own := RX1) (by decide) rfl rfl (Nat.le_of_ble_eq_true rfl) ?_
  intro p e s m below meth c ls B hCP hl hS
  obtain ⟨hx, hb, hml, hr, hts, hown, hlocks⟩ := B
  obtain ⟨hSWs, G, ZN, hGM, hMI, hMW⟩ := id hCP
  obtain ⟨hK, hZL, ⟨hstb, xs, hXL, hAL⟩, hTW⟩ := id hSWs
  obtain ⟨f, g, z, sp, rf, rc, hAf, hAg, hAz, hAsp, hArf, hArc, hP, hDb⟩ := id hMW
  have hD := MW_mD hDb
  have hmb := mM_b hDb
  have hbl := MW_lt hMW
  have hSW0 := hSWs
  have hl : lv_has ls 2 [(0, .ref y0), (1, .int (iI (x)))] := hl
  have hin : ∀ w ∈ u_ws RX1 TX1 10, w ∈ wsX1_gapBehind := by decide +kernel
  have q_thrown := hts (.fieldLink RX1 29 "ShelfMarksModel" "thrown" "I") (by decide +kernel)
  refine lv_aload_n hx hb dX1_gapBehind_0 rfl (lv_at hl 0 rfl) ?_
  refine lv_aload_n hx hb dX1_gapBehind_1 rfl (lv_at hl 0 rfl) ?_
  refine lv_iload_n hx hb dX1_gapBehind_2 rfl (lv_at hl 1 rfl) ?_
  have hCP : MP D cI cZ base st Z y0 y1 y2 y3 y6 y7 y8 (n) (came) (MV) (th) (F) (G) (ZN) (SP) (RF) (RC) s s.heap := ⟨hSW0.behind hbl hmb hS, ⟨f, g, z, sp, rf, rc, hAf, hAg, hAz, hAsp, hArf, hArc, hP, hD.weaken (fun _ _ _ h => hmb _ h)⟩⟩
  refine pu_callV (v := 0) (As := [.int (iI (x))]) (rest := [.ref y0]) MP_mv ⟨hx, hb, hml, hown, hts⟩ (c_M_known l D cI cZ base st Z y0 y1 y2 y3 y6 y7 y8 hMI x hxr 0 (kn_0 hMI hrp).symm) (cwV 1 hts gX1_gapBehind_X1_known rfl rfl rfl (by decide +kernel) ⟨(Nat.le_of_ble_eq_true rfl), (Nat.le_of_ble_eq_true rfl)⟩) hCP (MP_rc hCP) rfl rfl hl.1 (Nat.le_of_ble_eq_true rfl) dX1_gapBehind_3 ⟨Nat.zero_le _, Nat.zero_le _⟩ ?_
  refine pv_if_eq (tgt := 13) hx hb dX1_gapBehind_6 (by decide) (by omega) (fun c_6 => ?_) (fun c_6 => ?_)
  · -- 6t
    refine pv_iconst hx hb dX1_gapBehind_13 ?_
    refine va_put (D := D) (ci := 1) (v := .int (iI (1))) (ty := .int) (C := RX1) (T := TX1) (N := 10) hx hb hts hin tyX1 tyX1_ok nmX1 hown hK hP hD hS 0 rfl rfl 9 (by decide) q_thrown (fun _ h9 => h9) rfl (by decide +kernel) rfl rfl (Nat.le_of_ble_eq_true rfl) dX1_gapBehind_14 (fun H locs hP hD hS => ?_)
    have hP : va_P D vwCl (W1 cI cZ y0 y1 y2 y3 y6 y7 y8 (n) (came) (MV) (1) f g z sp rf rc) H := hP
    have hD : va_D (mM y0 y1 y2 y3 y6 y7 y8) (W1 cI cZ y0 y1 y2 y3 y6 y7 y8 (n) (came) (MV) (1) f g z sp rf rc) := hD
    refine lv_aload_n hx hb dX1_gapBehind_17 rfl (lv_at hl 0 rfl) ?_
    refine va_get (D := D) (ci := 1) (v := .int (iI (1))) (C := RX1) (T := TX1) (N := 10) hx hb hts hin hown hK hP 0 rfl rfl 9 (by decide) q_thrown (fun _ h9 => h9) rfl dX1_gapBehind_18 ?_
    refine pv_if_le (tgt := 28) hx hb dX1_gapBehind_21 (by decide) (by omega) (fun c_21 => ?_) (fun c_21 => ?_)
    · exact absurd c_21 (by omega)
    · -- 21f
      refine pv_iconst hx hb dX1_gapBehind_24 ?_
      refine lv_goto (tgt := 48) hx hb dX1_gapBehind_25 (by decide) ?_
      exact mu_iret hx hb hr hlocks hS dX1_gapBehind_48 (by rfl) ⟨G, ZN, hGM, hMI, ⟨f, g, z, sp, rf, rc, hAf, hAg, hAz, hAsp, hArf, hArc, hP, hD.weaken (fun _ _ _ h => hmb _ h)⟩⟩
  · exact absurd c_6 (by omega)
set_option maxHeartbeats 4000000 in
set_option maxRecDepth 100000 in
theorem c_M_load (l : Launch) (D : va_G) (cI cZ : ClassId) (base st : Nat) (Z : Nat → Nat) (y0 y1 y2 y3 y6 y7 y8 : Nat) {n came MV th : Int} {F Gp SP RF RC : Int → Int} (hn : 0 ≤ n ∧ n ≤ 60) (hF : ∀ k : Int, 0 ≤ k → k < n → 0 ≤ F k ∧ F k < 200) (hG : ∀ k : Int, 0 ≤ k → k < n → 0 ≤ Gp k ∧ Gp k ≤ 255) (hs : SD Gp n) (lv : Int) (hlv : 0 ≤ lv ∧ lv ≤ 8) (sh : Int) (hsr : (-2147483648 ≤ sh ∧ sh ≤ 2147483647)) (hsh : 0 ≤ sh ∧ sh < 256 / 2 ^ lv.toNat) : mu_M l yX1_load wsX1_load ({ frames := 2, cells := 0, slots := 0, locals := 46 } : Room) [.ref y0, .int (iI (lv)), .int (iI (sh))] (AP D cI cZ base st Z y0 y1 y2 y3 y6 y7 y8 n came MV th F Gp SP RF RC) (some (.int (iI (ldn Gp n lv sh)))) (fun H => MA D cI cZ base y0 y1 y2 y3 y6 y7 y8 (n) (came) (MV) (0) (F) (Gp) (SP) (RF) (RC) H) (mM y0 y1 y2 y3 y6 y7 y8) := by
  refine mu_of (cc := cX1_load) (maxL := 3) (ret := (some .int)) (own := RX1) (by decide) rfl rfl (Nat.le_of_ble_eq_true rfl) ?_
  intro p e s m below meth c ls B hCP hl hS
  obtain ⟨hx, hb, hml, hr, hts, hown, hlocks⟩ := B
  obtain ⟨hSWs, G, ZN, hGM, hMI, hMW⟩ := id hCP
  obtain ⟨hK, hZL, ⟨hstb, xs, hXL, hAL⟩, hTW⟩ := id hSWs
  obtain ⟨f, g, z, sp, rf, rc, hAf, hAg, hAz, hAsp, hArf, hArc, hP, hDb⟩ := id hMW
  have hD := MW_mD hDb
  have hmb := mM_b hDb
  have hbl := MW_lt hMW
  have hSW0 := hSWs
  have hl : lv_has ls 3 [(0, .ref y0), (1, .int (iI (lv))), (2, .int (iI (sh)))] := hl
  have hin : ∀ w ∈ u_ws RX1 TX1 10, w ∈ wsX1_load := by decide +kernel
  have q_thrown := hts (.fieldLink RX1 29 "ShelfMarksModel" "thrown" "I") (by decide +kernel)
  refine lv_aload_n hx hb dX1_load_0 rfl (lv_at hl 0 rfl) ?_
  refine lv_iload_n hx hb dX1_load_1 rfl (lv_at hl 1 rfl) ?_
  refine pu_callS (v := 1) (As := [.int (iI (lv))]) (rest := [.ref y0]) TP_mv ⟨hx, hb, hml, hown, hts⟩ (c_M_isLevel l lv (by omega) 1 (by rw [if_pos hlv])) (va_cwS 1 hts gX1_load_X1_isLevel rfl rfl rfl (by decide +kernel) ⟨(Nat.le_of_ble_eq_true rfl), (Nat.le_of_ble_eq_true rfl)⟩) trivial rfl rfl hl.1 (Nat.le_of_ble_eq_true rfl) dX1_load_2 ⟨Nat.zero_le _, Nat.zero_le _⟩ ?_
  refine pv_if_eq (tgt := 25) hx hb dX1_load_5 (by decide) (by omega) (fun c_5 => ?_) (fun c_5 => ?_)
  · exact absurd c_5 (by omega)
  · -- 5f
    have hsb := shl_b hlv hsh
    have hsq := shq_b hlv
    refine lv_iload_n hx hb dX1_load_8 rfl (lv_at hl 2 rfl) ?_
    refine pv_if_lt (tgt := 25) hx hb dX1_load_9 (by decide) (by omega) (fun c_9 => ?_) (fun c_9 => ?_)
    · exfalso; omega
    · -- 9f
      refine lv_iload_n hx hb dX1_load_12 rfl (lv_at hl 2 rfl) ?_
      refine pv_sipush hx hb dX1_load_13 (by decide +kernel) ?_
      refine lv_iload_n hx hb dX1_load_16 rfl (lv_at hl 1 rfl) ?_
      refine pv_ishr hx hb dX1_load_17 (by omega) (by omega) ?_
      refine pv_icmp_ge (tgt := 25) hx hb dX1_load_18 (by decide) (by omega) (fun c_18 => ?_) (fun c_18 => ?_)
      · exfalso; omega
      · -- 18f
        refine pv_iconst hx hb dX1_load_21 ?_
        refine lv_goto (tgt := 26) hx hb dX1_load_22 (by decide) ?_
        refine va_put (D := D) (ci := 1) (v := .int (iI (0))) (ty := .int) (C := RX1) (T := TX1) (N := 10) hx hb hts hin tyX1 tyX1_ok nmX1 hown hK hP hD hS 0 rfl rfl 9 (by decide) q_thrown (fun _ h9 => h9) rfl (by decide +kernel) rfl rfl (Nat.le_of_ble_eq_true rfl) dX1_load_26 (fun H locs hP hD hS => ?_)
        have hP : va_P D vwCl (W1 cI cZ y0 y1 y2 y3 y6 y7 y8 (n) (came) (MV) (0) f g z sp rf rc) H := hP
        have hD : va_D (mM y0 y1 y2 y3 y6 y7 y8) (W1 cI cZ y0 y1 y2 y3 y6 y7 y8 (n) (came) (MV) (0) f g z sp rf rc) := hD
        refine lv_aload_n hx hb dX1_load_29 rfl (lv_at hl 0 rfl) ?_
        refine va_get (D := D) (ci := 1) (v := .int (iI (0))) (C := RX1) (T := TX1) (N := 10) hx hb hts hin hown hK hP 0 rfl rfl 9 (by decide) q_thrown (fun _ h9 => h9) rfl dX1_load_30 ?_
        refine pv_if_le (tgt := 40) hx hb dX1_load_33 (by decide) (by omega) (fun c_33 => ?_) (fun c_33 => ?_)
        · -- 33t
          refine lv_aload_n hx hb dX1_load_40 rfl (lv_at hl 0 rfl) ?_
          refine lv_iload_n hx hb dX1_load_41 rfl (lv_at hl 1 rfl) ?_
          refine lv_iload_n hx hb dX1_load_42 rfl (lv_at hl 2 rfl) ?_
          have hCP : MP D cI cZ base st Z y0 y1 y2 y3 y6 y7 y8 (n) (came) (MV) (0) (F) (G) (ZN) (SP) (RF) (RC) s H := ⟨hSW0.behind hbl hmb hS, ⟨f, g, z, sp, rf, rc, hAf, hAg, hAz, hAsp, hArf, hArc, hP, hD.weaken (fun _ _ _ h => hmb _ h)⟩⟩
          refine pu_callV (v := ldn Gp n lv sh) (As := [.int (iI (lv)), .int (iI (sh))]) (rest := []) MP_mv ⟨hx, hb, hml, hown, hts⟩ (c_M_loadOf l D cI cZ base st Z y0 y1 y2 y3 y6 y7 y8 hn hF Gp hGM hG hs lv sh hlv hsh.1 ⟨by omega, by omega, by omega, by omega⟩) (cwV 2 hts gX1_load_X1_loadOf rfl rfl rfl (by decide +kernel) ⟨(Nat.le_of_ble_eq_true rfl), (Nat.le_of_ble_eq_true rfl)⟩) hCP (MP_rc hCP) rfl rfl hl.1 (Nat.le_of_ble_eq_true rfl) dX1_load_43 ⟨Nat.zero_le _, Nat.zero_le _⟩ ?_
          exact mu_iret hx hb hr hlocks hS dX1_load_46 (by rfl) ⟨G, ZN, hGM, hMI, ⟨f, g, z, sp, rf, rc, hAf, hAg, hAz, hAsp, hArf, hArc, hP, hD.weaken (fun _ _ _ h => hmb _ h)⟩⟩
        · exact absurd c_33 (by omega)
set_option maxHeartbeats 4000000 in
set_option maxRecDepth 100000 in
theorem d_M_load (l : Launch) (D : va_G) (cI cZ : ClassId) (base st : Nat) (Z : Nat → Nat) (y0 y1 y2 y3 y6 y7 y8 : Nat) {n came MV th : Int} {F Gp SP RF RC : Int → Int} (lv : Int) (hlr : (-2147483648 ≤ lv ∧ lv ≤ 2147483647)) (hlv : ¬ (0 ≤ lv ∧ lv ≤ 8)) (sh : Int) : mu_M l yX1_load wsX1_load ({ frames := 1, cells := 0, slots := 0, locals := 20 } : Room) [.ref y0, .int (iI (lv)), .int (iI (sh))] (AP D cI cZ base st Z y0 y1 y2 y3 y6 y7 y8 n came MV th F Gp SP RF RC) (some (.int (iI (0)))) (fun H => MA D cI cZ base y0 y1 y2 y3 y6 y7 y8 (n) (came) (MV) (1) (F) (Gp) (SP) (RF) (RC) H) (mM y0 y1 y2 y3 y6 y7 y8) := by
  refine mu_of (cc := cX1_load) (maxL := 3) (ret := (some .int)) (own := RX1) (by decide) rfl rfl (Nat.le_of_ble_eq_true rfl) ?_
  intro p e s m below meth c ls B hCP hl hS
  obtain ⟨hx, hb, hml, hr, hts, hown, hlocks⟩ := B
  obtain ⟨hSWs, G, ZN, hGM, hMI, hMW⟩ := id hCP
  obtain ⟨hK, hZL, ⟨hstb, xs, hXL, hAL⟩, hTW⟩ := id hSWs
  obtain ⟨f, g, z, sp, rf, rc, hAf, hAg, hAz, hAsp, hArf, hArc, hP, hDb⟩ := id hMW
  have hD := MW_mD hDb
  have hmb := mM_b hDb
  have hbl := MW_lt hMW
  have hSW0 := hSWs
  have hl : lv_has ls 3 [(0, .ref y0), (1, .int (iI (lv))), (2, .int (iI (sh)))] := hl
  have hin : ∀ w ∈ u_ws RX1 TX1 10, w ∈ wsX1_load := by decide +kernel
  have q_thrown := hts (.fieldLink RX1 29 "ShelfMarksModel" "thrown" "I") (by decide +kernel)
  refine lv_aload_n hx hb dX1_load_0 rfl (lv_at hl 0 rfl) ?_
  refine lv_iload_n hx hb dX1_load_1 rfl (lv_at hl 1 rfl) ?_
  refine pu_callS (v := 0) (As := [.int (iI (lv))]) (rest := [.ref y0]) TP_mv ⟨hx, hb, hml, hown, hts⟩ (c_M_isLevel l lv hlr 0 (by rw [if_neg hlv])) (va_cwS 1 hts gX1_load_X1_isLevel rfl rfl rfl (by decide +kernel) ⟨(Nat.le_of_ble_eq_true rfl), (Nat.le_of_ble_eq_true rfl)⟩) trivial rfl rfl hl.1 (Nat.le_of_ble_eq_true rfl) dX1_load_2 ⟨Nat.zero_le _, Nat.zero_le _⟩ ?_
  refine pv_if_eq (tgt := 25) hx hb dX1_load_5 (by decide) (by omega) (fun c_5 => ?_) (fun c_5 => ?_)
  · -- 5t
    refine pv_iconst hx hb dX1_load_25 ?_
    refine va_put (D := D) (ci := 1) (v := .int (iI (1))) (ty := .int) (C := RX1) (T := TX1) (N := 10) hx hb hts hin tyX1 tyX1_ok nmX1 hown hK hP hD hS 0 rfl rfl 9 (by decide) q_thrown (fun _ h9 => h9) rfl (by decide +kernel) rfl rfl (Nat.le_of_ble_eq_true rfl) dX1_load_26 (fun H locs hP hD hS => ?_)
    have hP : va_P D vwCl (W1 cI cZ y0 y1 y2 y3 y6 y7 y8 (n) (came) (MV) (1) f g z sp rf rc) H := hP
    have hD : va_D (mM y0 y1 y2 y3 y6 y7 y8) (W1 cI cZ y0 y1 y2 y3 y6 y7 y8 (n) (came) (MV) (1) f g z sp rf rc) := hD
    refine lv_aload_n hx hb dX1_load_29 rfl (lv_at hl 0 rfl) ?_
    refine va_get (D := D) (ci := 1) (v := .int (iI (1))) (C := RX1) (T := TX1) (N := 10) hx hb hts hin hown hK hP 0 rfl rfl 9 (by decide) q_thrown (fun _ h9 => h9) rfl dX1_load_30 ?_
    refine pv_if_le (tgt := 40) hx hb dX1_load_33 (by decide) (by omega) (fun c_33 => ?_) (fun c_33 => ?_)
    · exact absurd c_33 (by omega)
    · -- 33f
      refine pv_iconst hx hb dX1_load_36 ?_
      refine lv_goto (tgt := 46) hx hb dX1_load_37 (by decide) ?_
      exact mu_iret hx hb hr hlocks hS dX1_load_46 (by rfl) ⟨G, ZN, hGM, hMI, ⟨f, g, z, sp, rf, rc, hAf, hAg, hAz, hAsp, hArf, hArc, hP, hD.weaken (fun _ _ _ h => hmb _ h)⟩⟩
  · exact absurd c_5 (by omega)
set_option maxHeartbeats 4000000 in
set_option maxRecDepth 100000 in
theorem d_M_load2 (l : Launch) (D : va_G) (cI cZ : ClassId) (base st : Nat) (Z : Nat → Nat) (y0 y1 y2 y3 y6 y7 y8 : Nat) {n came MV th : Int} {F Gp SP RF RC : Int → Int} (lv : Int) (hlv : 0 ≤ lv ∧ lv ≤ 8) (sh : Int) (hsr : (-2147483648 ≤ sh ∧ sh ≤ 2147483647)) (hsh : ¬ (0 ≤ sh ∧ sh < 256 / 2 ^ lv.toNat)) : mu_M l yX1_load wsX1_load ({ frames := 1, cells := 0, slots := 0, locals := 20 } : Room) [.ref y0, .int (iI (lv)), .int (iI (sh))] (AP D cI cZ base st Z y0 y1 y2 y3 y6 y7 y8 n came MV th F Gp SP RF RC) (some (.int (iI (0)))) (fun H => MA D cI cZ base y0 y1 y2 y3 y6 y7 y8 (n) (came) (MV) (1) (F) (Gp) (SP) (RF) (RC) H) (mM y0 y1 y2 y3 y6 y7 y8) := by
  refine mu_of (cc := cX1_load) (maxL := 3) (ret := (some .int)) (own := RX1) (by decide) rfl rfl (Nat.le_of_ble_eq_true rfl) ?_
  intro p e s m below meth c ls B hCP hl hS
  obtain ⟨hx, hb, hml, hr, hts, hown, hlocks⟩ := B
  obtain ⟨hSWs, G, ZN, hGM, hMI, hMW⟩ := id hCP
  obtain ⟨hK, hZL, ⟨hstb, xs, hXL, hAL⟩, hTW⟩ := id hSWs
  obtain ⟨f, g, z, sp, rf, rc, hAf, hAg, hAz, hAsp, hArf, hArc, hP, hDb⟩ := id hMW
  have hD := MW_mD hDb
  have hmb := mM_b hDb
  have hbl := MW_lt hMW
  have hSW0 := hSWs
  have hl : lv_has ls 3 [(0, .ref y0), (1, .int (iI (lv))), (2, .int (iI (sh)))] := hl
  have hin : ∀ w ∈ u_ws RX1 TX1 10, w ∈ wsX1_load := by decide +kernel
  have q_thrown := hts (.fieldLink RX1 29 "ShelfMarksModel" "thrown" "I") (by decide +kernel)
  refine lv_aload_n hx hb dX1_load_0 rfl (lv_at hl 0 rfl) ?_
  refine lv_iload_n hx hb dX1_load_1 rfl (lv_at hl 1 rfl) ?_
  refine pu_callS (v := 1) (As := [.int (iI (lv))]) (rest := [.ref y0]) TP_mv ⟨hx, hb, hml, hown, hts⟩ (c_M_isLevel l lv (by omega) 1 (by rw [if_pos hlv])) (va_cwS 1 hts gX1_load_X1_isLevel rfl rfl rfl (by decide +kernel) ⟨(Nat.le_of_ble_eq_true rfl), (Nat.le_of_ble_eq_true rfl)⟩) trivial rfl rfl hl.1 (Nat.le_of_ble_eq_true rfl) dX1_load_2 ⟨Nat.zero_le _, Nat.zero_le _⟩ ?_
  refine pv_if_eq (tgt := 25) hx hb dX1_load_5 (by decide) (by omega) (fun c_5 => ?_) (fun c_5 => ?_)
  · exact absurd c_5 (by omega)
  · -- 5f
    have hsq := shq_b hlv
    refine lv_iload_n hx hb dX1_load_8 rfl (lv_at hl 2 rfl) ?_
    refine pv_if_lt (tgt := 25) hx hb dX1_load_9 (by decide) (by omega) (fun c_9 => ?_) (fun c_9 => ?_)
    · -- 9t
      refine pv_iconst hx hb dX1_load_25 ?_
      refine va_put (D := D) (ci := 1) (v := .int (iI (1))) (ty := .int) (C := RX1) (T := TX1) (N := 10) hx hb hts hin tyX1 tyX1_ok nmX1 hown hK hP hD hS 0 rfl rfl 9 (by decide) q_thrown (fun _ h9 => h9) rfl (by decide +kernel) rfl rfl (Nat.le_of_ble_eq_true rfl) dX1_load_26 (fun H locs hP hD hS => ?_)
      have hP : va_P D vwCl (W1 cI cZ y0 y1 y2 y3 y6 y7 y8 (n) (came) (MV) (1) f g z sp rf rc) H := hP
      have hD : va_D (mM y0 y1 y2 y3 y6 y7 y8) (W1 cI cZ y0 y1 y2 y3 y6 y7 y8 (n) (came) (MV) (1) f g z sp rf rc) := hD
      refine lv_aload_n hx hb dX1_load_29 rfl (lv_at hl 0 rfl) ?_
      refine va_get (D := D) (ci := 1) (v := .int (iI (1))) (C := RX1) (T := TX1) (N := 10) hx hb hts hin hown hK hP 0 rfl rfl 9 (by decide) q_thrown (fun _ h9 => h9) rfl dX1_load_30 ?_
      refine pv_if_le (tgt := 40) hx hb dX1_load_33 (by decide) (by omega) (fun c_33 => ?_) (fun c_33 => ?_)
      · exact absurd c_33 (by omega)
      · -- 33f
        refine pv_iconst hx hb dX1_load_36 ?_
        refine lv_goto (tgt := 46) hx hb dX1_load_37 (by decide) ?_
        exact mu_iret hx hb hr hlocks hS dX1_load_46 (by rfl) ⟨G, ZN, hGM, hMI, ⟨f, g, z, sp, rf, rc, hAf, hAg, hAz, hAsp, hArf, hArc, hP, hD.weaken (fun _ _ _ h => hmb _ h)⟩⟩
    · -- 9f
      refine lv_iload_n hx hb dX1_load_12 rfl (lv_at hl 2 rfl) ?_
      refine pv_sipush hx hb dX1_load_13 (by decide +kernel) ?_
      refine lv_iload_n hx hb dX1_load_16 rfl (lv_at hl 1 rfl) ?_
      refine pv_ishr hx hb dX1_load_17 (by omega) (by omega) ?_
      refine pv_icmp_ge (tgt := 25) hx hb dX1_load_18 (by decide) (by omega) (fun c_18 => ?_) (fun c_18 => ?_)
      · -- 18t
        refine pv_iconst hx hb dX1_load_25 ?_
        refine va_put (D := D) (ci := 1) (v := .int (iI (1))) (ty := .int) (C := RX1) (T := TX1) (N := 10) hx hb hts hin tyX1 tyX1_ok nmX1 hown hK hP hD hS 0 rfl rfl 9 (by decide) q_thrown (fun _ h9 => h9) rfl (by decide +kernel) rfl rfl (Nat.le_of_ble_eq_true rfl) dX1_load_26 (fun H locs hP hD hS => ?_)
        have hP : va_P D vwCl (W1 cI cZ y0 y1 y2 y3 y6 y7 y8 (n) (came) (MV) (1) f g z sp rf rc) H := hP
        have hD : va_D (mM y0 y1 y2 y3 y6 y7 y8) (W1 cI cZ y0 y1 y2 y3 y6 y7 y8 (n) (came) (MV) (1) f g z sp rf rc) := hD
        refine lv_aload_n hx hb dX1_load_29 rfl (lv_at hl 0 rfl) ?_
        refine va_get (D := D) (ci := 1) (v := .int (iI (1))) (C := RX1) (T := TX1) (N := 10) hx hb hts hin hown hK hP 0 rfl rfl 9 (by decide) q_thrown (fun _ h9 => h9) rfl dX1_load_30 ?_
        refine pv_if_le (tgt := 40) hx hb dX1_load_33 (by decide) (by omega) (fun c_33 => ?_) (fun c_33 => ?_)
        · exact absurd c_33 (by omega)
        · -- 33f
          refine pv_iconst hx hb dX1_load_36 ?_
          refine lv_goto (tgt := 46) hx hb dX1_load_37 (by decide) ?_
          exact mu_iret hx hb hr hlocks hS dX1_load_46 (by rfl) ⟨G, ZN, hGM, hMI, ⟨f, g, z, sp, rf, rc, hAf, hAg, hAz, hAsp, hArf, hArc, hP, hD.weaken (fun _ _ _ h => hmb _ h)⟩⟩
      · exfalso; omega
set_option maxHeartbeats 4000000 in
set_option maxRecDepth 100000 in
theorem c_M_loaded (l : Launch) (D : va_G) (cI cZ : ClassId) (base st : Nat) (Z : Nat → Nat) (y0 y1 y2 y3 y6 y7 y8 : Nat) {n came MV th : Int} {F Gp SP RF RC : Int → Int} (hn : 0 ≤ n ∧ n ≤ 60) (hF : ∀ k : Int, 0 ≤ k → k < n → 0 ≤ F k ∧ F k < 200) (hG : ∀ k : Int, 0 ≤ k → k < n → 0 ≤ Gp k ∧ Gp k ≤ 255) (hs : SD Gp n) (lv : Int) (hlv : 0 ≤ lv ∧ lv ≤ 8) : mu_M l yX1_loaded wsX1_loaded ({ frames := 2, cells := 0, slots := 0, locals := 46 } : Room) [.ref y0, .int (iI (lv))] (AP D cI cZ base st Z y0 y1 y2 y3 y6 y7 y8 n came MV th F Gp SP RF RC) (some (.int (iI (cn (fun s => decide (LM lv ≤ ldn Gp n lv s)) (256 / 2 ^ lv.toNat : Int).toNat)))) (fun H => MA D cI cZ base y0 y1 y2 y3 y6 y7 y8 (n) (came) (MV) (0) (F) (Gp) (SP) (RF) (RC) H) (mM y0 y1 y2 y3 y6 y7 y8) := by
  refine mu_of (cc := cX1_loaded) (maxL := 4) (ret := (some .int)) (own := RX1) (by decide) rfl rfl (Nat.le_of_ble_eq_true rfl) ?_
  intro p e s m below meth c ls B hCP hl hS
  obtain ⟨hx, hb, hml, hr, hts, hown, hlocks⟩ := B
  obtain ⟨hSWs, G, ZN, hGM, hMI, hMW⟩ := id hCP
  obtain ⟨hK, hZL, ⟨hstb, xs, hXL, hAL⟩, hTW⟩ := id hSWs
  obtain ⟨f, g, z, sp, rf, rc, hAf, hAg, hAz, hAsp, hArf, hArc, hP, hDb⟩ := id hMW
  have hD := MW_mD hDb
  have hmb := mM_b hDb
  have hbl := MW_lt hMW
  have hSW0 := hSWs
  have hl : lv_has ls 4 [(0, .ref y0), (1, .int (iI (lv)))] := hl
  have hin : ∀ w ∈ u_ws RX1 TX1 10, w ∈ wsX1_loaded := by decide +kernel
  have q_thrown := hts (.fieldLink RX1 29 "ShelfMarksModel" "thrown" "I") (by decide +kernel)
  refine lv_aload_n hx hb dX1_loaded_0 rfl (lv_at hl 0 rfl) ?_
  refine lv_iload_n hx hb dX1_loaded_1 rfl (lv_at hl 1 rfl) ?_
  refine pu_callS (v := 1) (As := [.int (iI (lv))]) (rest := [.ref y0]) TP_mv ⟨hx, hb, hml, hown, hts⟩ (c_M_isLevel l lv (by omega) 1 (by rw [if_pos hlv])) (va_cwS 1 hts gX1_loaded_X1_isLevel rfl rfl rfl (by decide +kernel) ⟨(Nat.le_of_ble_eq_true rfl), (Nat.le_of_ble_eq_true rfl)⟩) trivial rfl rfl hl.1 (Nat.le_of_ble_eq_true rfl) dX1_loaded_2 ⟨Nat.zero_le _, Nat.zero_le _⟩ ?_
  refine pv_if_eq (tgt := 12) hx hb dX1_loaded_5 (by decide) (by omega) (fun c_5 => ?_) (fun c_5 => ?_)
  · exact absurd c_5 (by omega)
  · -- 5f
    refine pv_iconst hx hb dX1_loaded_8 ?_
    refine lv_goto (tgt := 13) hx hb dX1_loaded_9 (by decide) ?_
    refine va_put (D := D) (ci := 1) (v := .int (iI (0))) (ty := .int) (C := RX1) (T := TX1) (N := 10) hx hb hts hin tyX1 tyX1_ok nmX1 hown hK hP hD hS 0 rfl rfl 9 (by decide) q_thrown (fun _ h9 => h9) rfl (by decide +kernel) rfl rfl (Nat.le_of_ble_eq_true rfl) dX1_loaded_13 (fun H locs hP hD hS => ?_)
    have hP : va_P D vwCl (W1 cI cZ y0 y1 y2 y3 y6 y7 y8 (n) (came) (MV) (0) f g z sp rf rc) H := hP
    have hD : va_D (mM y0 y1 y2 y3 y6 y7 y8) (W1 cI cZ y0 y1 y2 y3 y6 y7 y8 (n) (came) (MV) (0) f g z sp rf rc) := hD
    have hsq := shq_b hlv
    refine pv_iconst hx hb dX1_loaded_16 ?_
    refine lv_istore_n (lv' := [(2, .int (iI (0))), (0, .ref y0), (1, .int (iI (lv)))]) hx hb dX1_loaded_17 rfl hl (by decide) rfl (fun ls hl => ?_)
    refine pv_iconst hx hb dX1_loaded_18 ?_
    refine lv_istore_n (lv' := [(3, .int (iI (0))), (2, .int (iI (0))), (0, .ref y0), (1, .int (iI (lv)))]) hx hb dX1_loaded_19 rfl hl (by decide) rfl (fun ls hl => ?_)
    have hloop20 : ∀ (fuel : Nat) (fd : Int) (sh : Int) (H : Heap) (locs : List Loc) (ls : Array Slot), (256 / 2 ^ lv.toNat - sh) < fuel → (0 ≤ sh ∧ sh ≤ 256 / 2 ^ lv.toNat) → (fd = cn (fun s => decide (LM lv ≤ ldn Gp n lv s)) sh.toNat) → MW D cI cZ base y0 y1 y2 y3 y6 y7 y8 (n) (came) (MV) (0) (F) (G) (ZN) (SP) (RF) (RC) H → va_S (mM y0 y1 y2 y3 y6 y7 y8) s.heap H locs → lv_has ls 4 [(0, .ref y0), (1, .int (iI (lv))), (2, .int (iI (fd))), (3, .int (iI (sh)))] → W p l e ({ frames := 2, cells := 0, slots := 0, locals := 46 } : Room) s m ([.ref y0, .int (iI (lv))] : List Value).toArray below meth c H locs 0 0 (MQ below (mu_Q (some (.int (iI (cn (fun s => decide (LM lv ≤ ldn Gp n lv s)) (256 / 2 ^ lv.toNat : Int).toNat)))) (fun H => MA D cI cZ base y0 y1 y2 y3 y6 y7 y8 (n) (came) (MV) (0) (F) (Gp) (SP) (RF) (RC) H) (mM y0 y1 y2 y3 y6 y7 y8)) ([.ref y0, .int (iI (lv))] : List Value).toArray s 0 0 (mM y0 y1 y2 y3 y6 y7 y8)) (F0 m 20 ls []) := by
      intro fuel
      induction fuel with
      | zero => intro fd sh H locs ls hfu hk hfd hC9 hS hl; exfalso; omega
      | succ fuel ih =>
        intro fd sh H locs ls hfu hk hfd hC9 hS hl
        obtain ⟨f, g, z, sp, rf, rc, hAf, hAg, hAz, hAsp, hArf, hArc, hP, hDb⟩ := hC9
        have hD := MW_mD hDb
        refine lv_aload_n hx hb dX1_loaded_20 rfl (lv_at hl 0 rfl) ?_
        refine va_get (D := D) (ci := 1) (v := .int (iI (0))) (C := RX1) (T := TX1) (N := 10) hx hb hts hin hown hK hP 0 rfl rfl 9 (by decide) q_thrown (fun _ h9 => h9) rfl dX1_loaded_21 ?_
        refine pv_if_ne (tgt := 63) hx hb dX1_loaded_24 (by decide) (by omega) (fun c_24 => ?_) (fun c_24 => ?_)
        · exact absurd c_24 (by omega)
        · -- 24f
          refine lv_iload_n hx hb dX1_loaded_27 rfl (lv_at hl 3 rfl) ?_
          refine pv_sipush hx hb dX1_loaded_28 (by decide +kernel) ?_
          refine lv_iload_n hx hb dX1_loaded_31 rfl (lv_at hl 1 rfl) ?_
          refine pv_ishr hx hb dX1_loaded_32 (by omega) (by omega) ?_
          refine pv_icmp_ge (tgt := 63) hx hb dX1_loaded_33 (by decide) (by omega) (fun c_33 => ?_) (fun c_33 => ?_)
          · -- 33t
            refine lv_iload_n hx hb dX1_loaded_63 rfl (lv_at hl 2 rfl) ?_
            exact mu_iret hx hb hr hlocks hS dX1_loaded_64 (by rw [hfd, show sh.toNat = (256 / 2 ^ lv.toNat : Int).toNat by omega]) ⟨G, ZN, hGM, hMI, ⟨f, g, z, sp, rf, rc, hAf, hAg, hAz, hAsp, hArf, hArc, hP, hD.weaken (fun _ _ _ h => hmb _ h)⟩⟩
          · -- 33f
            have hsb := shl_b hlv (sh := sh) ⟨by omega, c_33⟩
            have hld9 := ldn_rg (lv := lv) (sh := sh) hn hs (by have := p2_rg hlv; exact Int.mul_le_mul_of_nonneg_right (by omega) (by omega))
            have hlm := LM_rg lv
            refine lv_iload_n hx hb dX1_loaded_36 rfl (lv_at hl 2 rfl) ?_
            refine lv_aload_n hx hb dX1_loaded_37 rfl (lv_at hl 0 rfl) ?_
            refine lv_iload_n hx hb dX1_loaded_38 rfl (lv_at hl 1 rfl) ?_
            refine lv_iload_n hx hb dX1_loaded_39 rfl (lv_at hl 3 rfl) ?_
            have hCP : MP D cI cZ base st Z y0 y1 y2 y3 y6 y7 y8 (n) (came) (MV) (0) (F) (G) (ZN) (SP) (RF) (RC) s H := ⟨hSW0.behind hbl hmb hS, ⟨f, g, z, sp, rf, rc, hAf, hAg, hAz, hAsp, hArf, hArc, hP, hD.weaken (fun _ _ _ h => hmb _ h)⟩⟩
            refine pu_callV (v := ldn Gp n lv sh) (As := [.int (iI (lv)), .int (iI (sh))]) (rest := [.int (iI (fd))]) MP_mv ⟨hx, hb, hml, hown, hts⟩ (c_M_loadOf l D cI cZ base st Z y0 y1 y2 y3 y6 y7 y8 hn hF Gp hGM hG hs lv sh hlv (by omega) ⟨by omega, by omega, by omega, by omega⟩) (cwV 2 hts gX1_loaded_X1_loadOf rfl rfl rfl (by decide +kernel) ⟨(Nat.le_of_ble_eq_true rfl), (Nat.le_of_ble_eq_true rfl)⟩) hCP (MP_rc hCP) rfl rfl hl.1 (Nat.le_of_ble_eq_true rfl) dX1_loaded_40 ⟨Nat.zero_le _, Nat.zero_le _⟩ ?_
            refine lv_iload_n hx hb dX1_loaded_43 rfl (lv_at hl 1 rfl) ?_
            refine pu_callS (v := LM lv) (As := [.int (iI (lv))]) (rest := [.int (iI (ldn Gp n lv sh)), .int (iI (fd))]) TP_mv ⟨hx, hb, hml, hown, hts⟩ (c_M_limit l lv (by omega) _ rfl) (va_cwS 1 hts gX1_loaded_X1_limit rfl rfl rfl (by decide +kernel) ⟨(Nat.le_of_ble_eq_true rfl), (Nat.le_of_ble_eq_true rfl)⟩) trivial rfl rfl hl.1 (Nat.le_of_ble_eq_true rfl) dX1_loaded_44 ⟨Nat.zero_le _, Nat.zero_le _⟩ ?_
            refine pv_icmp_lt (tgt := 54) hx hb dX1_loaded_47 (by decide) (by omega) (fun c_47 => ?_) (fun c_47 => ?_)
            · -- 47t
              refine pv_iconst hx hb dX1_loaded_54 ?_
              refine pv_iadd hx hb dX1_loaded_55 ?_
              refine lv_istore_n (lv' := [(2, .int (iI ((fd) + (0)))), (0, .ref y0), (1, .int (iI (lv))), (3, .int (iI (sh)))]) hx hb dX1_loaded_56 rfl hl (by decide) rfl (fun ls hl => ?_)
              refine pv_iinc (lv' := [(3, .int (iI (sh + 1))), (2, .int (iI ((fd) + (0)))), (0, .ref y0), (1, .int (iI (lv)))]) hx hb dX1_loaded_57 hl (k := 3) rfl (by decide) rfl (fun ls hl => ?_)
              refine lv_goto (tgt := 20) hx hb dX1_loaded_60 (by decide) ?_
              exact ih ((fd) + (0)) (sh + 1) _ _ ls (by omega) (by omega) (by rw [Int.add_zero, hfd]; exact (cn_f _ (by omega) (decide_eq_false (by omega))).symm) ⟨f, g, z, sp, rf, rc, hAf, hAg, hAz, hAsp, hArf, hArc, hP, hD.weaken (fun _ _ _ h => hmb _ h)⟩ hS (lv_sub hl [2, 3, 1, 0] rfl)
            · -- 47f
              refine pv_iconst hx hb dX1_loaded_50 ?_
              refine lv_goto (tgt := 55) hx hb dX1_loaded_51 (by decide) ?_
              refine pv_iadd hx hb dX1_loaded_55 ?_
              refine lv_istore_n (lv' := [(2, .int (iI ((fd) + (1)))), (0, .ref y0), (1, .int (iI (lv))), (3, .int (iI (sh)))]) hx hb dX1_loaded_56 rfl hl (by decide) rfl (fun ls hl => ?_)
              refine pv_iinc (lv' := [(3, .int (iI (sh + 1))), (2, .int (iI ((fd) + (1)))), (0, .ref y0), (1, .int (iI (lv)))]) hx hb dX1_loaded_57 hl (k := 3) rfl (by decide) rfl (fun ls hl => ?_)
              refine lv_goto (tgt := 20) hx hb dX1_loaded_60 (by decide) ?_
              exact ih ((fd) + (1)) (sh + 1) _ _ ls (by omega) (by omega) (by rw [hfd]; exact (cn_t _ (by omega) (decide_eq_true c_47)).symm) ⟨f, g, z, sp, rf, rc, hAf, hAg, hAz, hAsp, hArf, hArc, hP, hD.weaken (fun _ _ _ h => hmb _ h)⟩ hS (lv_sub hl [2, 3, 1, 0] rfl)
    exact hloop20 ((256 : Int).toNat + 1) (0) (0) _ _ ls (by omega) (by omega) (rfl) ⟨f, g, z, sp, rf, rc, hAf, hAg, hAz, hAsp, hArf, hArc, hP, hD.weaken (fun _ _ _ h => hmb _ h)⟩ hS (lv_sub hl [2, 3, 1, 0] rfl)
set_option maxHeartbeats 4000000 in
set_option maxRecDepth 100000 in
theorem d_M_loaded (l : Launch) (D : va_G) (cI cZ : ClassId) (base st : Nat) (Z : Nat → Nat) (y0 y1 y2 y3 y6 y7 y8 : Nat) {n came MV th : Int} {F Gp SP RF RC : Int → Int} (lv : Int) (hlr : (-2147483648 ≤ lv ∧ lv ≤ 2147483647)) (hlv : ¬ (0 ≤ lv ∧ lv ≤ 8)) : mu_M l yX1_loaded wsX1_loaded ({ frames := 1, cells := 0, slots := 0, locals := 20 } : Room) [.ref y0, .int (iI (lv))] (AP D cI cZ base st Z y0 y1 y2 y3 y6 y7 y8 n came MV th F Gp SP RF RC) (some (.int (iI (0)))) (fun H => MA D cI cZ base y0 y1 y2 y3 y6 y7 y8 (n) (came) (MV) (1) (F) (Gp) (SP) (RF) (RC) H) (mM y0 y1 y2 y3 y6 y7 y8) := by
  refine mu_of (cc := cX1_loaded) (maxL := 4) (ret := (some .int)) (own := RX1) (by decide) rfl rfl (Nat.le_of_ble_eq_true rfl) ?_
  intro p e s m below meth c ls B hCP hl hS
  obtain ⟨hx, hb, hml, hr, hts, hown, hlocks⟩ := B
  obtain ⟨hSWs, G, ZN, hGM, hMI, hMW⟩ := id hCP
  obtain ⟨hK, hZL, ⟨hstb, xs, hXL, hAL⟩, hTW⟩ := id hSWs
  obtain ⟨f, g, z, sp, rf, rc, hAf, hAg, hAz, hAsp, hArf, hArc, hP, hDb⟩ := id hMW
  have hD := MW_mD hDb
  have hmb := mM_b hDb
  have hbl := MW_lt hMW
  have hSW0 := hSWs
  have hl : lv_has ls 4 [(0, .ref y0), (1, .int (iI (lv)))] := hl
  have hin : ∀ w ∈ u_ws RX1 TX1 10, w ∈ wsX1_loaded := by decide +kernel
  have q_thrown := hts (.fieldLink RX1 29 "ShelfMarksModel" "thrown" "I") (by decide +kernel)
  refine lv_aload_n hx hb dX1_loaded_0 rfl (lv_at hl 0 rfl) ?_
  refine lv_iload_n hx hb dX1_loaded_1 rfl (lv_at hl 1 rfl) ?_
  refine pu_callS (v := 0) (As := [.int (iI (lv))]) (rest := [.ref y0]) TP_mv ⟨hx, hb, hml, hown, hts⟩ (c_M_isLevel l lv hlr 0 (by rw [if_neg hlv])) (va_cwS 1 hts gX1_loaded_X1_isLevel rfl rfl rfl (by decide +kernel) ⟨(Nat.le_of_ble_eq_true rfl), (Nat.le_of_ble_eq_true rfl)⟩) trivial rfl rfl hl.1 (Nat.le_of_ble_eq_true rfl) dX1_loaded_2 ⟨Nat.zero_le _, Nat.zero_le _⟩ ?_
  refine pv_if_eq (tgt := 12) hx hb dX1_loaded_5 (by decide) (by omega) (fun c_5 => ?_) (fun c_5 => ?_)
  · -- 5t
    refine pv_iconst hx hb dX1_loaded_12 ?_
    refine va_put (D := D) (ci := 1) (v := .int (iI (1))) (ty := .int) (C := RX1) (T := TX1) (N := 10) hx hb hts hin tyX1 tyX1_ok nmX1 hown hK hP hD hS 0 rfl rfl 9 (by decide) q_thrown (fun _ h9 => h9) rfl (by decide +kernel) rfl rfl (Nat.le_of_ble_eq_true rfl) dX1_loaded_13 (fun H locs hP hD hS => ?_)
    have hP : va_P D vwCl (W1 cI cZ y0 y1 y2 y3 y6 y7 y8 (n) (came) (MV) (1) f g z sp rf rc) H := hP
    have hD : va_D (mM y0 y1 y2 y3 y6 y7 y8) (W1 cI cZ y0 y1 y2 y3 y6 y7 y8 (n) (came) (MV) (1) f g z sp rf rc) := hD
    refine pv_iconst hx hb dX1_loaded_16 ?_
    refine lv_istore_n (lv' := [(2, .int (iI (0))), (0, .ref y0), (1, .int (iI (lv)))]) hx hb dX1_loaded_17 rfl hl (by decide) rfl (fun ls hl => ?_)
    refine pv_iconst hx hb dX1_loaded_18 ?_
    refine lv_istore_n (lv' := [(3, .int (iI (0))), (2, .int (iI (0))), (0, .ref y0), (1, .int (iI (lv)))]) hx hb dX1_loaded_19 rfl hl (by decide) rfl (fun ls hl => ?_)
    refine lv_aload_n hx hb dX1_loaded_20 rfl (lv_at hl 2 rfl) ?_
    refine va_get (D := D) (ci := 1) (v := .int (iI (1))) (C := RX1) (T := TX1) (N := 10) hx hb hts hin hown hK hP 0 rfl rfl 9 (by decide) q_thrown (fun _ h9 => h9) rfl dX1_loaded_21 ?_
    refine pv_if_ne (tgt := 63) hx hb dX1_loaded_24 (by decide) (by omega) (fun c_24 => ?_) (fun c_24 => ?_)
    · -- 24t
      refine lv_iload_n hx hb dX1_loaded_63 rfl (lv_at hl 1 rfl) ?_
      exact mu_iret hx hb hr hlocks hS dX1_loaded_64 (by rfl) ⟨G, ZN, hGM, hMI, ⟨f, g, z, sp, rf, rc, hAf, hAg, hAz, hAsp, hArf, hArc, hP, hD.weaken (fun _ _ _ h => hmb _ h)⟩⟩
    · exact absurd c_24 (by omega)
  · exact absurd c_5 (by omega)
set_option maxHeartbeats 4000000 in
set_option maxRecDepth 100000 in
theorem c_M_spread (l : Launch) (D : va_G) (cI cZ : ClassId) (base st : Nat) (Z : Nat → Nat) (y0 y1 y2 y3 y6 y7 y8 : Nat) {n came MV th : Int} {F Gp SP RF RC : Int → Int} (lv : Int) (hlv : 0 ≤ lv ∧ lv ≤ 8) : mu_M l yX1_spread wsX1_spread ({ frames := 1, cells := 0, slots := 0, locals := 20 } : Room) [.ref y0, .int (iI (lv))] (AP D cI cZ base st Z y0 y1 y2 y3 y6 y7 y8 n came MV th F Gp SP RF RC) (some (.int (iI (SP lv)))) (fun H => MA D cI cZ base y0 y1 y2 y3 y6 y7 y8 (n) (came) (MV) (0) (F) (Gp) (SP) (RF) (RC) H) (mM y0 y1 y2 y3 y6 y7 y8) := by
  refine mu_of (cc := cX1_spread) (maxL := 2) (ret := (some .int)) (own := RX1) (by decide) rfl rfl (Nat.le_of_ble_eq_true rfl) ?_
  intro p e s m below meth c ls B hCP hl hS
  obtain ⟨hx, hb, hml, hr, hts, hown, hlocks⟩ := B
  obtain ⟨hSWs, G, ZN, hGM, hMI, hMW⟩ := id hCP
  obtain ⟨hK, hZL, ⟨hstb, xs, hXL, hAL⟩, hTW⟩ := id hSWs
  obtain ⟨f, g, z, sp, rf, rc, hAf, hAg, hAz, hAsp, hArf, hArc, hP, hDb⟩ := id hMW
  have hD := MW_mD hDb
  have hmb := mM_b hDb
  have hbl := MW_lt hMW
  have hSW0 := hSWs
  have hl : lv_has ls 2 [(0, .ref y0), (1, .int (iI (lv)))] := hl
  have hin : ∀ w ∈ u_ws RX1 TX1 10, w ∈ wsX1_spread := by decide +kernel
  have q_spread := hts (.fieldLink RX1 20 "ShelfMarksModel" "spread" "[I") (by decide +kernel)
  have q_thrown := hts (.fieldLink RX1 29 "ShelfMarksModel" "thrown" "I") (by decide +kernel)
  refine lv_aload_n hx hb dX1_spread_0 rfl (lv_at hl 0 rfl) ?_
  refine lv_iload_n hx hb dX1_spread_1 rfl (lv_at hl 1 rfl) ?_
  refine pu_callS (v := 1) (As := [.int (iI (lv))]) (rest := [.ref y0]) TP_mv ⟨hx, hb, hml, hown, hts⟩ (c_M_isLevel l lv (by omega) 1 (by rw [if_pos hlv])) (va_cwS 1 hts gX1_spread_X1_isLevel rfl rfl rfl (by decide +kernel) ⟨(Nat.le_of_ble_eq_true rfl), (Nat.le_of_ble_eq_true rfl)⟩) trivial rfl rfl hl.1 (Nat.le_of_ble_eq_true rfl) dX1_spread_2 ⟨Nat.zero_le _, Nat.zero_le _⟩ ?_
  refine pv_if_eq (tgt := 12) hx hb dX1_spread_5 (by decide) (by omega) (fun c_5 => ?_) (fun c_5 => ?_)
  · exact absurd c_5 (by omega)
  · -- 5f
    refine pv_iconst hx hb dX1_spread_8 ?_
    refine lv_goto (tgt := 13) hx hb dX1_spread_9 (by decide) ?_
    refine va_put (D := D) (ci := 1) (v := .int (iI (0))) (ty := .int) (C := RX1) (T := TX1) (N := 10) hx hb hts hin tyX1 tyX1_ok nmX1 hown hK hP hD hS 0 rfl rfl 9 (by decide) q_thrown (fun _ h9 => h9) rfl (by decide +kernel) rfl rfl (Nat.le_of_ble_eq_true rfl) dX1_spread_13 (fun H locs hP hD hS => ?_)
    have hP : va_P D vwCl (W1 cI cZ y0 y1 y2 y3 y6 y7 y8 (n) (came) (MV) (0) f g z sp rf rc) H := hP
    have hD : va_D (mM y0 y1 y2 y3 y6 y7 y8) (W1 cI cZ y0 y1 y2 y3 y6 y7 y8 (n) (came) (MV) (0) f g z sp rf rc) := hD
    refine lv_aload_n hx hb dX1_spread_16 rfl (lv_at hl 0 rfl) ?_
    refine va_get (D := D) (ci := 1) (v := .int (iI (0))) (C := RX1) (T := TX1) (N := 10) hx hb hts hin hown hK hP 0 rfl rfl 9 (by decide) q_thrown (fun _ h9 => h9) rfl dX1_spread_17 ?_
    refine pv_if_le (tgt := 27) hx hb dX1_spread_20 (by decide) (by omega) (fun c_20 => ?_) (fun c_20 => ?_)
    · -- 20t
      refine lv_aload_n hx hb dX1_spread_27 rfl (lv_at hl 0 rfl) ?_
      refine va_get (D := D) (ci := 1) (v := .ref y6) (C := RX1) (T := TX1) (N := 10) hx hb hts hin hown hK hP 0 rfl rfl 6 (by decide) q_spread (fun _ h9 => h9) rfl dX1_spread_28 ?_
      refine lv_iload_n hx hb dX1_spread_31 rfl (lv_at hl 1 rfl) ?_
      refine pv_iald (i := lv) (v := SP (lv)) hx hb hK hP 4 0 rfl rfl (by omega) (by decide) (hAsp _ (by omega) (by omega)) dX1_spread_32 ?_
      exact mu_iret hx hb hr hlocks hS dX1_spread_33 (by rfl) ⟨G, ZN, hGM, hMI, ⟨f, g, z, sp, rf, rc, hAf, hAg, hAz, hAsp, hArf, hArc, hP, hD.weaken (fun _ _ _ h => hmb _ h)⟩⟩
    · exact absurd c_20 (by omega)
set_option maxHeartbeats 4000000 in
set_option maxRecDepth 100000 in
theorem d_M_spread (l : Launch) (D : va_G) (cI cZ : ClassId) (base st : Nat) (Z : Nat → Nat) (y0 y1 y2 y3 y6 y7 y8 : Nat) {n came MV th : Int} {F Gp SP RF RC : Int → Int} (lv : Int) (hlr : (-2147483648 ≤ lv ∧ lv ≤ 2147483647)) (hlv : ¬ (0 ≤ lv ∧ lv ≤ 8)) : mu_M l yX1_spread wsX1_spread ({ frames := 1, cells := 0, slots := 0, locals := 20 } : Room) [.ref y0, .int (iI (lv))] (AP D cI cZ base st Z y0 y1 y2 y3 y6 y7 y8 n came MV th F Gp SP RF RC) (some (.int (iI (0)))) (fun H => MA D cI cZ base y0 y1 y2 y3 y6 y7 y8 (n) (came) (MV) (1) (F) (Gp) (SP) (RF) (RC) H) (mM y0 y1 y2 y3 y6 y7 y8) := by
  refine mu_of (cc := cX1_spread) (maxL := 2) (ret := (some .int)) (own := RX1) (by decide) rfl rfl (Nat.le_of_ble_eq_true rfl) ?_
  intro p e s m below meth c ls B hCP hl hS
  obtain ⟨hx, hb, hml, hr, hts, hown, hlocks⟩ := B
  obtain ⟨hSWs, G, ZN, hGM, hMI, hMW⟩ := id hCP
  obtain ⟨hK, hZL, ⟨hstb, xs, hXL, hAL⟩, hTW⟩ := id hSWs
  obtain ⟨f, g, z, sp, rf, rc, hAf, hAg, hAz, hAsp, hArf, hArc, hP, hDb⟩ := id hMW
  have hD := MW_mD hDb
  have hmb := mM_b hDb
  have hbl := MW_lt hMW
  have hSW0 := hSWs
  have hl : lv_has ls 2 [(0, .ref y0), (1, .int (iI (lv)))] := hl
  have hin : ∀ w ∈ u_ws RX1 TX1 10, w ∈ wsX1_spread := by decide +kernel
  have q_thrown := hts (.fieldLink RX1 29 "ShelfMarksModel" "thrown" "I") (by decide +kernel)
  refine lv_aload_n hx hb dX1_spread_0 rfl (lv_at hl 0 rfl) ?_
  refine lv_iload_n hx hb dX1_spread_1 rfl (lv_at hl 1 rfl) ?_
  refine pu_callS (v := 0) (As := [.int (iI (lv))]) (rest := [.ref y0]) TP_mv ⟨hx, hb, hml, hown, hts⟩ (c_M_isLevel l lv hlr 0 (by rw [if_neg hlv])) (va_cwS 1 hts gX1_spread_X1_isLevel rfl rfl rfl (by decide +kernel) ⟨(Nat.le_of_ble_eq_true rfl), (Nat.le_of_ble_eq_true rfl)⟩) trivial rfl rfl hl.1 (Nat.le_of_ble_eq_true rfl) dX1_spread_2 ⟨Nat.zero_le _, Nat.zero_le _⟩ ?_
  refine pv_if_eq (tgt := 12) hx hb dX1_spread_5 (by decide) (by omega) (fun c_5 => ?_) (fun c_5 => ?_)
  · -- 5t
    refine pv_iconst hx hb dX1_spread_12 ?_
    refine va_put (D := D) (ci := 1) (v := .int (iI (1))) (ty := .int) (C := RX1) (T := TX1) (N := 10) hx hb hts hin tyX1 tyX1_ok nmX1 hown hK hP hD hS 0 rfl rfl 9 (by decide) q_thrown (fun _ h9 => h9) rfl (by decide +kernel) rfl rfl (Nat.le_of_ble_eq_true rfl) dX1_spread_13 (fun H locs hP hD hS => ?_)
    have hP : va_P D vwCl (W1 cI cZ y0 y1 y2 y3 y6 y7 y8 (n) (came) (MV) (1) f g z sp rf rc) H := hP
    have hD : va_D (mM y0 y1 y2 y3 y6 y7 y8) (W1 cI cZ y0 y1 y2 y3 y6 y7 y8 (n) (came) (MV) (1) f g z sp rf rc) := hD
    refine lv_aload_n hx hb dX1_spread_16 rfl (lv_at hl 0 rfl) ?_
    refine va_get (D := D) (ci := 1) (v := .int (iI (1))) (C := RX1) (T := TX1) (N := 10) hx hb hts hin hown hK hP 0 rfl rfl 9 (by decide) q_thrown (fun _ h9 => h9) rfl dX1_spread_17 ?_
    refine pv_if_le (tgt := 27) hx hb dX1_spread_20 (by decide) (by omega) (fun c_20 => ?_) (fun c_20 => ?_)
    · exact absurd c_20 (by omega)
    · -- 20f
      refine pv_iconst hx hb dX1_spread_23 ?_
      refine lv_goto (tgt := 33) hx hb dX1_spread_24 (by decide) ?_
      exact mu_iret hx hb hr hlocks hS dX1_spread_33 (by rfl) ⟨G, ZN, hGM, hMI, ⟨f, g, z, sp, rf, rc, hAf, hAg, hAz, hAsp, hArf, hArc, hP, hD.weaken (fun _ _ _ h => hmb _ h)⟩⟩
  · exact absurd c_5 (by omega)
set_option maxHeartbeats 4000000 in
set_option maxRecDepth 100000 in
theorem c_M_at (l : Launch) (D : va_G) (cI cZ : ClassId) (base st : Nat) (Z : Nat → Nat) (y0 y1 y2 y3 y6 y7 y8 : Nat) {n came MV th : Int} {F Gp SP RF RC : Int → Int} (lv : Int) (hlv : 0 ≤ lv ∧ lv < 4) : mu_M l yX1_at wsX1_at ({ frames := 1, cells := 0, slots := 0, locals := 20 } : Room) [.ref y0, .int (iI (lv))] (AP D cI cZ base st Z y0 y1 y2 y3 y6 y7 y8 n came MV th F Gp SP RF RC) (some (.int (iI (RF lv)))) (fun H => MA D cI cZ base y0 y1 y2 y3 y6 y7 y8 (n) (came) (MV) (0) (F) (Gp) (SP) (RF) (RC) H) (mM y0 y1 y2 y3 y6 y7 y8) := by
  refine mu_of (cc := cX1_at) (maxL := 2) (ret := (some .int)) (own := RX1) (by decide) rfl rfl (Nat.le_of_ble_eq_true rfl) ?_
  intro p e s m below meth c ls B hCP hl hS
  obtain ⟨hx, hb, hml, hr, hts, hown, hlocks⟩ := B
  obtain ⟨hSWs, G, ZN, hGM, hMI, hMW⟩ := id hCP
  obtain ⟨hK, hZL, ⟨hstb, xs, hXL, hAL⟩, hTW⟩ := id hSWs
  obtain ⟨f, g, z, sp, rf, rc, hAf, hAg, hAz, hAsp, hArf, hArc, hP, hDb⟩ := id hMW
  have hD := MW_mD hDb
  have hmb := mM_b hDb
  have hbl := MW_lt hMW
  have hSW0 := hSWs
  have hl : lv_has ls 2 [(0, .ref y0), (1, .int (iI (lv)))] := hl
  have hin : ∀ w ∈ u_ws RX1 TX1 10, w ∈ wsX1_at := by decide +kernel
  have q_at := hts (.fieldLink RX1 23 "ShelfMarksModel" "at" "[I") (by decide +kernel)
  have q_thrown := hts (.fieldLink RX1 29 "ShelfMarksModel" "thrown" "I") (by decide +kernel)
  refine lv_aload_n hx hb dX1_at_0 rfl (lv_at hl 0 rfl) ?_
  refine lv_iload_n hx hb dX1_at_1 rfl (lv_at hl 1 rfl) ?_
  refine pu_callS (v := 1) (As := [.int (iI (lv))]) (rest := [.ref y0]) TP_mv ⟨hx, hb, hml, hown, hts⟩ (c_M_isReader l lv (by omega) 1 (by rw [if_pos hlv])) (va_cwS 1 hts gX1_at_X1_isReader rfl rfl rfl (by decide +kernel) ⟨(Nat.le_of_ble_eq_true rfl), (Nat.le_of_ble_eq_true rfl)⟩) trivial rfl rfl hl.1 (Nat.le_of_ble_eq_true rfl) dX1_at_2 ⟨Nat.zero_le _, Nat.zero_le _⟩ ?_
  refine pv_if_eq (tgt := 12) hx hb dX1_at_5 (by decide) (by omega) (fun c_5 => ?_) (fun c_5 => ?_)
  · exact absurd c_5 (by omega)
  · -- 5f
    refine pv_iconst hx hb dX1_at_8 ?_
    refine lv_goto (tgt := 13) hx hb dX1_at_9 (by decide) ?_
    refine va_put (D := D) (ci := 1) (v := .int (iI (0))) (ty := .int) (C := RX1) (T := TX1) (N := 10) hx hb hts hin tyX1 tyX1_ok nmX1 hown hK hP hD hS 0 rfl rfl 9 (by decide) q_thrown (fun _ h9 => h9) rfl (by decide +kernel) rfl rfl (Nat.le_of_ble_eq_true rfl) dX1_at_13 (fun H locs hP hD hS => ?_)
    have hP : va_P D vwCl (W1 cI cZ y0 y1 y2 y3 y6 y7 y8 (n) (came) (MV) (0) f g z sp rf rc) H := hP
    have hD : va_D (mM y0 y1 y2 y3 y6 y7 y8) (W1 cI cZ y0 y1 y2 y3 y6 y7 y8 (n) (came) (MV) (0) f g z sp rf rc) := hD
    refine lv_aload_n hx hb dX1_at_16 rfl (lv_at hl 0 rfl) ?_
    refine va_get (D := D) (ci := 1) (v := .int (iI (0))) (C := RX1) (T := TX1) (N := 10) hx hb hts hin hown hK hP 0 rfl rfl 9 (by decide) q_thrown (fun _ h9 => h9) rfl dX1_at_17 ?_
    refine pv_if_le (tgt := 27) hx hb dX1_at_20 (by decide) (by omega) (fun c_20 => ?_) (fun c_20 => ?_)
    · -- 20t
      refine lv_aload_n hx hb dX1_at_27 rfl (lv_at hl 0 rfl) ?_
      refine va_get (D := D) (ci := 1) (v := .ref y7) (C := RX1) (T := TX1) (N := 10) hx hb hts hin hown hK hP 0 rfl rfl 7 (by decide) q_at (fun _ h9 => h9) rfl dX1_at_28 ?_
      refine lv_iload_n hx hb dX1_at_31 rfl (lv_at hl 1 rfl) ?_
      refine pv_iald (i := lv) (v := RF (lv)) hx hb hK hP 5 0 rfl rfl (by omega) (by decide) (hArf _ (by omega) (by omega)) dX1_at_32 ?_
      exact mu_iret hx hb hr hlocks hS dX1_at_33 (by rfl) ⟨G, ZN, hGM, hMI, ⟨f, g, z, sp, rf, rc, hAf, hAg, hAz, hAsp, hArf, hArc, hP, hD.weaken (fun _ _ _ h => hmb _ h)⟩⟩
    · exact absurd c_20 (by omega)
set_option maxHeartbeats 4000000 in
set_option maxRecDepth 100000 in
theorem d_M_at (l : Launch) (D : va_G) (cI cZ : ClassId) (base st : Nat) (Z : Nat → Nat) (y0 y1 y2 y3 y6 y7 y8 : Nat) {n came MV th : Int} {F Gp SP RF RC : Int → Int} (lv : Int) (hlr : (-2147483648 ≤ lv ∧ lv ≤ 2147483647)) (hlv : ¬ (0 ≤ lv ∧ lv < 4)) : mu_M l yX1_at wsX1_at ({ frames := 1, cells := 0, slots := 0, locals := 20 } : Room) [.ref y0, .int (iI (lv))] (AP D cI cZ base st Z y0 y1 y2 y3 y6 y7 y8 n came MV th F Gp SP RF RC) (some (.int (iI (0)))) (fun H => MA D cI cZ base y0 y1 y2 y3 y6 y7 y8 (n) (came) (MV) (1) (F) (Gp) (SP) (RF) (RC) H) (mM y0 y1 y2 y3 y6 y7 y8) := by
  refine mu_of (cc := cX1_at) (maxL := 2) (ret := (some .int)) (own := RX1) (by decide) rfl rfl (Nat.le_of_ble_eq_true rfl) ?_
  intro p e s m below meth c ls B hCP hl hS
  obtain ⟨hx, hb, hml, hr, hts, hown, hlocks⟩ := B
  obtain ⟨hSWs, G, ZN, hGM, hMI, hMW⟩ := id hCP
  obtain ⟨hK, hZL, ⟨hstb, xs, hXL, hAL⟩, hTW⟩ := id hSWs
  obtain ⟨f, g, z, sp, rf, rc, hAf, hAg, hAz, hAsp, hArf, hArc, hP, hDb⟩ := id hMW
  have hD := MW_mD hDb
  have hmb := mM_b hDb
  have hbl := MW_lt hMW
  have hSW0 := hSWs
  have hl : lv_has ls 2 [(0, .ref y0), (1, .int (iI (lv)))] := hl
  have hin : ∀ w ∈ u_ws RX1 TX1 10, w ∈ wsX1_at := by decide +kernel
  have q_thrown := hts (.fieldLink RX1 29 "ShelfMarksModel" "thrown" "I") (by decide +kernel)
  refine lv_aload_n hx hb dX1_at_0 rfl (lv_at hl 0 rfl) ?_
  refine lv_iload_n hx hb dX1_at_1 rfl (lv_at hl 1 rfl) ?_
  refine pu_callS (v := 0) (As := [.int (iI (lv))]) (rest := [.ref y0]) TP_mv ⟨hx, hb, hml, hown, hts⟩ (c_M_isReader l lv hlr 0 (by rw [if_neg hlv])) (va_cwS 1 hts gX1_at_X1_isReader rfl rfl rfl (by decide +kernel) ⟨(Nat.le_of_ble_eq_true rfl), (Nat.le_of_ble_eq_true rfl)⟩) trivial rfl rfl hl.1 (Nat.le_of_ble_eq_true rfl) dX1_at_2 ⟨Nat.zero_le _, Nat.zero_le _⟩ ?_
  refine pv_if_eq (tgt := 12) hx hb dX1_at_5 (by decide) (by omega) (fun c_5 => ?_) (fun c_5 => ?_)
  · -- 5t
    refine pv_iconst hx hb dX1_at_12 ?_
    refine va_put (D := D) (ci := 1) (v := .int (iI (1))) (ty := .int) (C := RX1) (T := TX1) (N := 10) hx hb hts hin tyX1 tyX1_ok nmX1 hown hK hP hD hS 0 rfl rfl 9 (by decide) q_thrown (fun _ h9 => h9) rfl (by decide +kernel) rfl rfl (Nat.le_of_ble_eq_true rfl) dX1_at_13 (fun H locs hP hD hS => ?_)
    have hP : va_P D vwCl (W1 cI cZ y0 y1 y2 y3 y6 y7 y8 (n) (came) (MV) (1) f g z sp rf rc) H := hP
    have hD : va_D (mM y0 y1 y2 y3 y6 y7 y8) (W1 cI cZ y0 y1 y2 y3 y6 y7 y8 (n) (came) (MV) (1) f g z sp rf rc) := hD
    refine lv_aload_n hx hb dX1_at_16 rfl (lv_at hl 0 rfl) ?_
    refine va_get (D := D) (ci := 1) (v := .int (iI (1))) (C := RX1) (T := TX1) (N := 10) hx hb hts hin hown hK hP 0 rfl rfl 9 (by decide) q_thrown (fun _ h9 => h9) rfl dX1_at_17 ?_
    refine pv_if_le (tgt := 27) hx hb dX1_at_20 (by decide) (by omega) (fun c_20 => ?_) (fun c_20 => ?_)
    · exact absurd c_20 (by omega)
    · -- 20f
      refine pv_iconst hx hb dX1_at_23 ?_
      refine lv_goto (tgt := 33) hx hb dX1_at_24 (by decide) ?_
      exact mu_iret hx hb hr hlocks hS dX1_at_33 (by rfl) ⟨G, ZN, hGM, hMI, ⟨f, g, z, sp, rf, rc, hAf, hAg, hAz, hAsp, hArf, hArc, hP, hD.weaken (fun _ _ _ h => hmb _ h)⟩⟩
  · exact absurd c_5 (by omega)
set_option maxHeartbeats 4000000 in
set_option maxRecDepth 100000 in
theorem c_M_read (l : Launch) (D : va_G) (cI cZ : ClassId) (base st : Nat) (Z : Nat → Nat) (y0 y1 y2 y3 y6 y7 y8 : Nat) {n came MV th : Int} {F Gp SP RF RC : Int → Int} (lv : Int) (hlv : 0 ≤ lv ∧ lv < 4) : mu_M l yX1_read wsX1_read ({ frames := 1, cells := 0, slots := 0, locals := 20 } : Room) [.ref y0, .int (iI (lv))] (AP D cI cZ base st Z y0 y1 y2 y3 y6 y7 y8 n came MV th F Gp SP RF RC) (some (.int (iI (RC lv)))) (fun H => MA D cI cZ base y0 y1 y2 y3 y6 y7 y8 (n) (came) (MV) (0) (F) (Gp) (SP) (RF) (RC) H) (mM y0 y1 y2 y3 y6 y7 y8) := by
  refine mu_of (cc := cX1_read) (maxL := 2) (ret := (some .int)) (own := RX1) (by decide) rfl rfl (Nat.le_of_ble_eq_true rfl) ?_
  intro p e s m below meth c ls B hCP hl hS
  obtain ⟨hx, hb, hml, hr, hts, hown, hlocks⟩ := B
  obtain ⟨hSWs, G, ZN, hGM, hMI, hMW⟩ := id hCP
  obtain ⟨hK, hZL, ⟨hstb, xs, hXL, hAL⟩, hTW⟩ := id hSWs
  obtain ⟨f, g, z, sp, rf, rc, hAf, hAg, hAz, hAsp, hArf, hArc, hP, hDb⟩ := id hMW
  have hD := MW_mD hDb
  have hmb := mM_b hDb
  have hbl := MW_lt hMW
  have hSW0 := hSWs
  have hl : lv_has ls 2 [(0, .ref y0), (1, .int (iI (lv)))] := hl
  have hin : ∀ w ∈ u_ws RX1 TX1 10, w ∈ wsX1_read := by decide +kernel
  have q_read := hts (.fieldLink RX1 26 "ShelfMarksModel" "read" "[I") (by decide +kernel)
  have q_thrown := hts (.fieldLink RX1 29 "ShelfMarksModel" "thrown" "I") (by decide +kernel)
  refine lv_aload_n hx hb dX1_read_0 rfl (lv_at hl 0 rfl) ?_
  refine lv_iload_n hx hb dX1_read_1 rfl (lv_at hl 1 rfl) ?_
  refine pu_callS (v := 1) (As := [.int (iI (lv))]) (rest := [.ref y0]) TP_mv ⟨hx, hb, hml, hown, hts⟩ (c_M_isReader l lv (by omega) 1 (by rw [if_pos hlv])) (va_cwS 1 hts gX1_read_X1_isReader rfl rfl rfl (by decide +kernel) ⟨(Nat.le_of_ble_eq_true rfl), (Nat.le_of_ble_eq_true rfl)⟩) trivial rfl rfl hl.1 (Nat.le_of_ble_eq_true rfl) dX1_read_2 ⟨Nat.zero_le _, Nat.zero_le _⟩ ?_
  refine pv_if_eq (tgt := 12) hx hb dX1_read_5 (by decide) (by omega) (fun c_5 => ?_) (fun c_5 => ?_)
  · exact absurd c_5 (by omega)
  · -- 5f
    refine pv_iconst hx hb dX1_read_8 ?_
    refine lv_goto (tgt := 13) hx hb dX1_read_9 (by decide) ?_
    refine va_put (D := D) (ci := 1) (v := .int (iI (0))) (ty := .int) (C := RX1) (T := TX1) (N := 10) hx hb hts hin tyX1 tyX1_ok nmX1 hown hK hP hD hS 0 rfl rfl 9 (by decide) q_thrown (fun _ h9 => h9) rfl (by decide +kernel) rfl rfl (Nat.le_of_ble_eq_true rfl) dX1_read_13 (fun H locs hP hD hS => ?_)
    have hP : va_P D vwCl (W1 cI cZ y0 y1 y2 y3 y6 y7 y8 (n) (came) (MV) (0) f g z sp rf rc) H := hP
    have hD : va_D (mM y0 y1 y2 y3 y6 y7 y8) (W1 cI cZ y0 y1 y2 y3 y6 y7 y8 (n) (came) (MV) (0) f g z sp rf rc) := hD
    refine lv_aload_n hx hb dX1_read_16 rfl (lv_at hl 0 rfl) ?_
    refine va_get (D := D) (ci := 1) (v := .int (iI (0))) (C := RX1) (T := TX1) (N := 10) hx hb hts hin hown hK hP 0 rfl rfl 9 (by decide) q_thrown (fun _ h9 => h9) rfl dX1_read_17 ?_
    refine pv_if_le (tgt := 27) hx hb dX1_read_20 (by decide) (by omega) (fun c_20 => ?_) (fun c_20 => ?_)
    · -- 20t
      refine lv_aload_n hx hb dX1_read_27 rfl (lv_at hl 0 rfl) ?_
      refine va_get (D := D) (ci := 1) (v := .ref y8) (C := RX1) (T := TX1) (N := 10) hx hb hts hin hown hK hP 0 rfl rfl 8 (by decide) q_read (fun _ h9 => h9) rfl dX1_read_28 ?_
      refine lv_iload_n hx hb dX1_read_31 rfl (lv_at hl 1 rfl) ?_
      refine pv_iald (i := lv) (v := RC (lv)) hx hb hK hP 6 0 rfl rfl (by omega) (by decide) (hArc _ (by omega) (by omega)) dX1_read_32 ?_
      exact mu_iret hx hb hr hlocks hS dX1_read_33 (by rfl) ⟨G, ZN, hGM, hMI, ⟨f, g, z, sp, rf, rc, hAf, hAg, hAz, hAsp, hArf, hArc, hP, hD.weaken (fun _ _ _ h => hmb _ h)⟩⟩
    · exact absurd c_20 (by omega)
set_option maxHeartbeats 4000000 in
set_option maxRecDepth 100000 in
theorem d_M_read (l : Launch) (D : va_G) (cI cZ : ClassId) (base st : Nat) (Z : Nat → Nat) (y0 y1 y2 y3 y6 y7 y8 : Nat) {n came MV th : Int} {F Gp SP RF RC : Int → Int} (lv : Int) (hlr : (-2147483648 ≤ lv ∧ lv ≤ 2147483647)) (hlv : ¬ (0 ≤ lv ∧ lv < 4)) : mu_M l yX1_read wsX1_read ({ frames := 1, cells := 0, slots := 0, locals := 20 } : Room) [.ref y0, .int (iI (lv))] (AP D cI cZ base st Z y0 y1 y2 y3 y6 y7 y8 n came MV th F Gp SP RF RC) (some (.int (iI (0)))) (fun H => MA D cI cZ base y0 y1 y2 y3 y6 y7 y8 (n) (came) (MV) (1) (F) (Gp) (SP) (RF) (RC) H) (mM y0 y1 y2 y3 y6 y7 y8) := by
  refine mu_of (cc := cX1_read) (maxL := 2) (ret := (some .int)) (own := RX1) (by decide) rfl rfl (Nat.le_of_ble_eq_true rfl) ?_
  intro p e s m below meth c ls B hCP hl hS
  obtain ⟨hx, hb, hml, hr, hts, hown, hlocks⟩ := B
  obtain ⟨hSWs, G, ZN, hGM, hMI, hMW⟩ := id hCP
  obtain ⟨hK, hZL, ⟨hstb, xs, hXL, hAL⟩, hTW⟩ := id hSWs
  obtain ⟨f, g, z, sp, rf, rc, hAf, hAg, hAz, hAsp, hArf, hArc, hP, hDb⟩ := id hMW
  have hD := MW_mD hDb
  have hmb := mM_b hDb
  have hbl := MW_lt hMW
  have hSW0 := hSWs
  have hl : lv_has ls 2 [(0, .ref y0), (1, .int (iI (lv)))] := hl
  have hin : ∀ w ∈ u_ws RX1 TX1 10, w ∈ wsX1_read := by decide +kernel
  have q_thrown := hts (.fieldLink RX1 29 "ShelfMarksModel" "thrown" "I") (by decide +kernel)
  refine lv_aload_n hx hb dX1_read_0 rfl (lv_at hl 0 rfl) ?_
  refine lv_iload_n hx hb dX1_read_1 rfl (lv_at hl 1 rfl) ?_
  refine pu_callS (v := 0) (As := [.int (iI (lv))]) (rest := [.ref y0]) TP_mv ⟨hx, hb, hml, hown, hts⟩ (c_M_isReader l lv hlr 0 (by rw [if_neg hlv])) (va_cwS 1 hts gX1_read_X1_isReader rfl rfl rfl (by decide +kernel) ⟨(Nat.le_of_ble_eq_true rfl), (Nat.le_of_ble_eq_true rfl)⟩) trivial rfl rfl hl.1 (Nat.le_of_ble_eq_true rfl) dX1_read_2 ⟨Nat.zero_le _, Nat.zero_le _⟩ ?_
  refine pv_if_eq (tgt := 12) hx hb dX1_read_5 (by decide) (by omega) (fun c_5 => ?_) (fun c_5 => ?_)
  · -- 5t
    refine pv_iconst hx hb dX1_read_12 ?_
    refine va_put (D := D) (ci := 1) (v := .int (iI (1))) (ty := .int) (C := RX1) (T := TX1) (N := 10) hx hb hts hin tyX1 tyX1_ok nmX1 hown hK hP hD hS 0 rfl rfl 9 (by decide) q_thrown (fun _ h9 => h9) rfl (by decide +kernel) rfl rfl (Nat.le_of_ble_eq_true rfl) dX1_read_13 (fun H locs hP hD hS => ?_)
    have hP : va_P D vwCl (W1 cI cZ y0 y1 y2 y3 y6 y7 y8 (n) (came) (MV) (1) f g z sp rf rc) H := hP
    have hD : va_D (mM y0 y1 y2 y3 y6 y7 y8) (W1 cI cZ y0 y1 y2 y3 y6 y7 y8 (n) (came) (MV) (1) f g z sp rf rc) := hD
    refine lv_aload_n hx hb dX1_read_16 rfl (lv_at hl 0 rfl) ?_
    refine va_get (D := D) (ci := 1) (v := .int (iI (1))) (C := RX1) (T := TX1) (N := 10) hx hb hts hin hown hK hP 0 rfl rfl 9 (by decide) q_thrown (fun _ h9 => h9) rfl dX1_read_17 ?_
    refine pv_if_le (tgt := 27) hx hb dX1_read_20 (by decide) (by omega) (fun c_20 => ?_) (fun c_20 => ?_)
    · exact absurd c_20 (by omega)
    · -- 20f
      refine pv_iconst hx hb dX1_read_23 ?_
      refine lv_goto (tgt := 33) hx hb dX1_read_24 (by decide) ?_
      exact mu_iret hx hb hr hlocks hS dX1_read_33 (by rfl) ⟨G, ZN, hGM, hMI, ⟨f, g, z, sp, rf, rc, hAf, hAg, hAz, hAsp, hArf, hArc, hP, hD.weaken (fun _ _ _ h => hmb _ h)⟩⟩
  · exact absurd c_5 (by omega)
set_option maxHeartbeats 4000000 in
set_option maxRecDepth 100000 in
theorem c_M_seat (l : Launch) (D : va_G) (cI cZ : ClassId) (base st : Nat) (Z : Nat → Nat) (y0 y1 y2 y3 y6 y7 y8 : Nat) {n came MV th : Int} {F Gp SP RF RC : Int → Int} (hn : 0 ≤ n ∧ n ≤ 60) (hF : ∀ k : Int, 0 ≤ k → k < n → 0 ≤ F k ∧ F k < 200) (x : Int) (hxr : (-2147483648 ≤ x ∧ x ≤ 2147483647)) (rp : Int) (hrp : PL F n x rp) (h0 : 0 ≤ rp) (hRF : ∀ k : Int, 0 ≤ k → k < 4 → -1 ≤ RF k ∧ RF k < 200) (u : Int) (hu : 0 ≤ u ∧ u < 4) : mu_M l yX1_seat wsX1_seat ({ frames := 1, cells := 0, slots := 0, locals := 21 } : Room) [.ref y0, .int (iI (u)), .int (iI (x))] (AP D cI cZ base st Z y0 y1 y2 y3 y6 y7 y8 n came MV th F Gp SP RF RC) (some (.int (iI (cn (fun k => decide (uI RF u x k = x)) 4)))) (fun H => MA D cI cZ base y0 y1 y2 y3 y6 y7 y8 (n) (came) (MV) (0) (F) (Gp) (SP) (uI RF u x) (RC) H) (mM y0 y1 y2 y3 y6 y7 y8) := by
  refine mu_of (cc := cX1_seat) (maxL := 5) (ret := (some .int)) (own := RX1) (by decide) rfl rfl (Nat.le_of_ble_eq_true rfl) ?_
  intro p e s m below meth c ls B hCP hl hS
  obtain ⟨hx, hb, hml, hr, hts, hown, hlocks⟩ := B
  obtain ⟨hSWs, G, ZN, hGM, hMI, hMW⟩ := id hCP
  obtain ⟨hK, hZL, ⟨hstb, xs, hXL, hAL⟩, hTW⟩ := id hSWs
  obtain ⟨f, g, z, sp, rf, rc, hAf, hAg, hAz, hAsp, hArf, hArc, hP, hDb⟩ := id hMW
  have hD := MW_mD hDb
  have hmb := mM_b hDb
  have hbl := MW_lt hMW
  have hSW0 := hSWs
  have hl : lv_has ls 5 [(0, .ref y0), (1, .int (iI (u))), (2, .int (iI (x)))] := hl
  have hin : ∀ w ∈ u_ws RX1 TX1 10, w ∈ wsX1_seat := by decide +kernel
  have q_at := hts (.fieldLink RX1 23 "ShelfMarksModel" "at" "[I") (by decide +kernel)
  have q_thrown := hts (.fieldLink RX1 29 "ShelfMarksModel" "thrown" "I") (by decide +kernel)
  obtain ⟨hx1, hx2, hx3⟩ := PL_p hrp h0
  have hgx : G x = Gp rp := by rw [← hx3]; exact hGM rp hx1 hx2
  have hxx := PL_x hF h0 hrp
  refine lv_aload_n hx hb dX1_seat_0 rfl (lv_at hl 0 rfl) ?_
  refine lv_iload_n hx hb dX1_seat_1 rfl (lv_at hl 1 rfl) ?_
  refine pu_callS (v := 1) (As := [.int (iI (u))]) (rest := [.ref y0]) TP_mv ⟨hx, hb, hml, hown, hts⟩ (c_M_isReader l u (by omega) 1 (by rw [if_pos hu])) (va_cwS 1 hts gX1_seat_X1_isReader rfl rfl rfl (by decide +kernel) ⟨(Nat.le_of_ble_eq_true rfl), (Nat.le_of_ble_eq_true rfl)⟩) trivial rfl rfl hl.1 (Nat.le_of_ble_eq_true rfl) dX1_seat_2 ⟨Nat.zero_le _, Nat.zero_le _⟩ ?_
  refine pv_if_eq (tgt := 20) hx hb dX1_seat_5 (by decide) (by omega) (fun c_5 => ?_) (fun c_5 => ?_)
  · exact absurd c_5 (by omega)
  · -- 5f
    refine lv_aload_n hx hb dX1_seat_8 rfl (lv_at hl 0 rfl) ?_
    refine lv_iload_n hx hb dX1_seat_9 rfl (lv_at hl 2 rfl) ?_
    have hCP : MP D cI cZ base st Z y0 y1 y2 y3 y6 y7 y8 (n) (came) (MV) (th) (F) (G) (ZN) (SP) (RF) (RC) s s.heap := ⟨hSW0.behind hbl hmb hS, ⟨f, g, z, sp, rf, rc, hAf, hAg, hAz, hAsp, hArf, hArc, hP, hD.weaken (fun _ _ _ h => hmb _ h)⟩⟩
    refine pu_callV (v := 1) (As := [.int (iI (x))]) (rest := [.ref y0]) MP_mv ⟨hx, hb, hml, hown, hts⟩ (c_M_known l D cI cZ base st Z y0 y1 y2 y3 y6 y7 y8 hMI x hxr 1 (kn_1 hMI hF hrp h0).symm) (cwV 1 hts gX1_seat_X1_known rfl rfl rfl (by decide +kernel) ⟨(Nat.le_of_ble_eq_true rfl), (Nat.le_of_ble_eq_true rfl)⟩) hCP (MP_rc hCP) rfl rfl hl.1 (Nat.le_of_ble_eq_true rfl) dX1_seat_10 ⟨Nat.zero_le _, Nat.zero_le _⟩ ?_
    refine pv_if_eq (tgt := 20) hx hb dX1_seat_13 (by decide) (by omega) (fun c_13 => ?_) (fun c_13 => ?_)
    · exact absurd c_13 (by omega)
    · -- 13f
      refine pv_iconst hx hb dX1_seat_16 ?_
      refine lv_goto (tgt := 21) hx hb dX1_seat_17 (by decide) ?_
      refine va_put (D := D) (ci := 1) (v := .int (iI (0))) (ty := .int) (C := RX1) (T := TX1) (N := 10) hx hb hts hin tyX1 tyX1_ok nmX1 hown hK hP hD hS 0 rfl rfl 9 (by decide) q_thrown (fun _ h9 => h9) rfl (by decide +kernel) rfl rfl (Nat.le_of_ble_eq_true rfl) dX1_seat_21 (fun H locs hP hD hS => ?_)
      have hP : va_P D vwCl (W1 cI cZ y0 y1 y2 y3 y6 y7 y8 (n) (came) (MV) (0) f g z sp rf rc) H := hP
      have hD : va_D (mM y0 y1 y2 y3 y6 y7 y8) (W1 cI cZ y0 y1 y2 y3 y6 y7 y8 (n) (came) (MV) (0) f g z sp rf rc) := hD
      refine lv_aload_n hx hb dX1_seat_24 rfl (lv_at hl 0 rfl) ?_
      refine va_get (D := D) (ci := 1) (v := .int (iI (0))) (C := RX1) (T := TX1) (N := 10) hx hb hts hin hown hK hP 0 rfl rfl 9 (by decide) q_thrown (fun _ h9 => h9) rfl dX1_seat_25 ?_
      refine pv_if_le (tgt := 33) hx hb dX1_seat_28 (by decide) (by omega) (fun c_28 => ?_) (fun c_28 => ?_)
      · -- 28t
        refine lv_aload_n hx hb dX1_seat_33 rfl (lv_at hl 0 rfl) ?_
        refine va_get (D := D) (ci := 1) (v := .ref y7) (C := RX1) (T := TX1) (N := 10) hx hb hts hin hown hK hP 0 rfl rfl 7 (by decide) q_at (fun _ h9 => h9) rfl dX1_seat_34 ?_
        refine lv_iload_n hx hb dX1_seat_37 rfl (lv_at hl 1 rfl) ?_
        refine lv_iload_n hx hb dX1_seat_38 rfl (lv_at hl 2 rfl) ?_
        refine pv_iast (i := u) (v := x) hx hb hK hP hD hS 5 0 rfl rfl (by omega) (by decide) dX1_seat_39 (fun H locs hP hD hS => ?_)
        have hP : va_P D vwCl (W1 cI cZ y0 y1 y2 y3 y6 y7 y8 (n) (came) (MV) (0) f g z sp (upd rf (u).toNat (iI (x))) rc) H := hP
        have hD : va_D (mM y0 y1 y2 y3 y6 y7 y8) (W1 cI cZ y0 y1 y2 y3 y6 y7 y8 (n) (came) (MV) (0) f g z sp (upd rf (u).toNat (iI (x))) rc) := hD
        have hArf := AR_up (k := u) (v := x) hArf (by omega)
        generalize upd rf (u).toNat (iI (x)) = rf at hP hD hArf
        refine pv_iconst hx hb dX1_seat_40 ?_
        refine lv_istore_n (lv' := [(3, .int (iI (0))), (0, .ref y0), (1, .int (iI (u))), (2, .int (iI (x)))]) hx hb dX1_seat_41 rfl hl (by decide) rfl (fun ls hl => ?_)
        refine pv_iconst hx hb dX1_seat_42 ?_
        refine lv_istore (lv' := [(4, .int (iI (0))), (3, .int (iI (0))), (0, .ref y0), (1, .int (iI (u))), (2, .int (iI (x)))]) hx hb dX1_seat_43 hl (by decide) rfl (fun ls hl => ?_)
        have hloop45 : ∀ (fuel : Nat) (fd : Int) (k : Int) (H : Heap) (locs : List Loc) (ls : Array Slot), (4 - k) < fuel → (0 ≤ k ∧ k ≤ 4) → (fd = cn (fun k => decide (uI RF u x k = x)) k.toNat) → MW D cI cZ base y0 y1 y2 y3 y6 y7 y8 (n) (came) (MV) (0) (F) (G) (ZN) (SP) (uI RF u x) (RC) H → va_S (mM y0 y1 y2 y3 y6 y7 y8) s.heap H locs → lv_has ls 5 [(0, .ref y0), (1, .int (iI (u))), (2, .int (iI (x))), (3, .int (iI (fd))), (4, .int (iI (k)))] → W p l e ({ frames := 1, cells := 0, slots := 0, locals := 21 } : Room) s m ([.ref y0, .int (iI (u)), .int (iI (x))] : List Value).toArray below meth c H locs 0 0 (MQ below (mu_Q (some (.int (iI (cn (fun k => decide (uI RF u x k = x)) 4)))) (fun H => MA D cI cZ base y0 y1 y2 y3 y6 y7 y8 (n) (came) (MV) (0) (F) (Gp) (SP) (uI RF u x) (RC) H) (mM y0 y1 y2 y3 y6 y7 y8)) ([.ref y0, .int (iI (u)), .int (iI (x))] : List Value).toArray s 0 0 (mM y0 y1 y2 y3 y6 y7 y8)) (F0 m 45 ls []) := by
          intro fuel
          induction fuel with
          | zero => intro fd k H locs ls hfu hk hfd hC9 hS hl; exfalso; omega
          | succ fuel ih =>
            intro fd k H locs ls hfu hk hfd hC9 hS hl
            obtain ⟨f, g, z, sp, rf, rc, hAf, hAg, hAz, hAsp, hArf, hArc, hP, hDb⟩ := hC9
            have hD := MW_mD hDb
            refine lv_iload hx hb dX1_seat_45 (lv_at hl 4 rfl) ?_
            refine pv_iconst hx hb dX1_seat_47 ?_
            refine pv_icmp_ge (tgt := 76) hx hb dX1_seat_48 (by decide) (by omega) (fun c_48 => ?_) (fun c_48 => ?_)
            · -- 48t
              refine lv_iload_n hx hb dX1_seat_76 rfl (lv_at hl 3 rfl) ?_
              exact mu_iret hx hb hr hlocks hS dX1_seat_77 (by rw [hfd, show k.toNat = 4 by omega]) ⟨G, ZN, hGM, hMI, ⟨f, g, z, sp, rf, rc, hAf, hAg, hAz, hAsp, hArf, hArc, hP, hD.weaken (fun _ _ _ h => hmb _ h)⟩⟩
            · -- 48f
              refine lv_iload_n hx hb dX1_seat_51 rfl (lv_at hl 3 rfl) ?_
              refine lv_aload_n hx hb dX1_seat_52 rfl (lv_at hl 0 rfl) ?_
              refine va_get (D := D) (ci := 1) (v := .ref y7) (C := RX1) (T := TX1) (N := 10) hx hb hts hin hown hK hP 0 rfl rfl 7 (by decide) q_at (fun _ h9 => h9) rfl dX1_seat_53 ?_
              refine lv_iload hx hb dX1_seat_56 (lv_at hl 4 rfl) ?_
              refine pv_iald (i := k) (v := uI RF u x (k)) hx hb hK hP 5 0 rfl rfl (by omega) (by decide) (hArf _ (by omega) (by omega)) dX1_seat_58 ?_
              have hrk : -1 ≤ uI RF u x k ∧ uI RF u x k < 200 := by unfold uI; split; omega; exact hRF k (by omega) (by omega)
              refine lv_iload_n hx hb dX1_seat_59 rfl (lv_at hl 2 rfl) ?_
              refine pv_icmp_ne (tgt := 67) hx hb dX1_seat_60 (by decide) (by omega) (fun c_60 => ?_) (fun c_60 => ?_)
              · -- 60t
                refine pv_iconst hx hb dX1_seat_67 ?_
                refine pv_iadd hx hb dX1_seat_68 ?_
                refine lv_istore_n (lv' := [(3, .int (iI ((fd) + (0)))), (0, .ref y0), (1, .int (iI (u))), (2, .int (iI (x))), (4, .int (iI (k)))]) hx hb dX1_seat_69 rfl hl (by decide) rfl (fun ls hl => ?_)
                refine pv_iinc (lv' := [(4, .int (iI (k + 1))), (3, .int (iI ((fd) + (0)))), (0, .ref y0), (1, .int (iI (u))), (2, .int (iI (x)))]) hx hb dX1_seat_70 hl (k := 4) rfl (by decide) rfl (fun ls hl => ?_)
                refine lv_goto (tgt := 45) hx hb dX1_seat_73 (by decide) ?_
                exact ih ((fd) + (0)) (k + 1) _ _ ls (by omega) (by omega) (by rw [Int.add_zero, hfd]; exact (cn_f _ (by omega) (decide_eq_false c_60)).symm) ⟨f, g, z, sp, rf, rc, hAf, hAg, hAz, hAsp, hArf, hArc, hP, hD.weaken (fun _ _ _ h => hmb _ h)⟩ hS (lv_sub hl [2, 3, 4, 1, 0] rfl)
              · -- 60f
                refine pv_iconst hx hb dX1_seat_63 ?_
                refine lv_goto (tgt := 68) hx hb dX1_seat_64 (by decide) ?_
                refine pv_iadd hx hb dX1_seat_68 ?_
                refine lv_istore_n (lv' := [(3, .int (iI ((fd) + (1)))), (0, .ref y0), (1, .int (iI (u))), (2, .int (iI (x))), (4, .int (iI (k)))]) hx hb dX1_seat_69 rfl hl (by decide) rfl (fun ls hl => ?_)
                refine pv_iinc (lv' := [(4, .int (iI (k + 1))), (3, .int (iI ((fd) + (1)))), (0, .ref y0), (1, .int (iI (u))), (2, .int (iI (x)))]) hx hb dX1_seat_70 hl (k := 4) rfl (by decide) rfl (fun ls hl => ?_)
                refine lv_goto (tgt := 45) hx hb dX1_seat_73 (by decide) ?_
                exact ih ((fd) + (1)) (k + 1) _ _ ls (by omega) (by omega) (by rw [hfd]; exact (cn_t _ (by omega) (decide_eq_true c_60)).symm) ⟨f, g, z, sp, rf, rc, hAf, hAg, hAz, hAsp, hArf, hArc, hP, hD.weaken (fun _ _ _ h => hmb _ h)⟩ hS (lv_sub hl [2, 3, 4, 1, 0] rfl)
        exact hloop45 ((4 : Int).toNat + 1) (0) (0) _ _ ls (by omega) (by omega) (rfl) ⟨f, g, z, sp, rf, rc, hAf, hAg, hAz, hAsp, hArf, hArc, hP, hD.weaken (fun _ _ _ h => hmb _ h)⟩ hS (lv_sub hl [2, 3, 4, 1, 0] rfl)
      · exact absurd c_28 (by omega)
set_option maxHeartbeats 4000000 in
set_option maxRecDepth 100000 in
theorem d_M_seat (l : Launch) (D : va_G) (cI cZ : ClassId) (base st : Nat) (Z : Nat → Nat) (y0 y1 y2 y3 y6 y7 y8 : Nat) {n came MV th : Int} {F Gp SP RF RC : Int → Int} (u : Int) (hur : (-2147483648 ≤ u ∧ u ≤ 2147483647)) (hu : ¬ (0 ≤ u ∧ u < 4)) (x : Int) : mu_M l yX1_seat wsX1_seat ({ frames := 1, cells := 0, slots := 0, locals := 20 } : Room) [.ref y0, .int (iI (u)), .int (iI (x))] (AP D cI cZ base st Z y0 y1 y2 y3 y6 y7 y8 n came MV th F Gp SP RF RC) (some (.int (iI (0)))) (fun H => MA D cI cZ base y0 y1 y2 y3 y6 y7 y8 (n) (came) (MV) (1) (F) (Gp) (SP) (RF) (RC) H) (mM y0 y1 y2 y3 y6 y7 y8) := by
  refine mu_of (cc := cX1_seat) (maxL := 5) (ret := (some .int)) (own := RX1) (by decide) rfl rfl (Nat.le_of_ble_eq_true rfl) ?_
  intro p e s m below meth c ls B hCP hl hS
  obtain ⟨hx, hb, hml, hr, hts, hown, hlocks⟩ := B
  obtain ⟨hSWs, G, ZN, hGM, hMI, hMW⟩ := id hCP
  obtain ⟨hK, hZL, ⟨hstb, xs, hXL, hAL⟩, hTW⟩ := id hSWs
  obtain ⟨f, g, z, sp, rf, rc, hAf, hAg, hAz, hAsp, hArf, hArc, hP, hDb⟩ := id hMW
  have hD := MW_mD hDb
  have hmb := mM_b hDb
  have hbl := MW_lt hMW
  have hSW0 := hSWs
  have hl : lv_has ls 5 [(0, .ref y0), (1, .int (iI (u))), (2, .int (iI (x)))] := hl
  have hin : ∀ w ∈ u_ws RX1 TX1 10, w ∈ wsX1_seat := by decide +kernel
  have q_thrown := hts (.fieldLink RX1 29 "ShelfMarksModel" "thrown" "I") (by decide +kernel)
  refine lv_aload_n hx hb dX1_seat_0 rfl (lv_at hl 0 rfl) ?_
  refine lv_iload_n hx hb dX1_seat_1 rfl (lv_at hl 1 rfl) ?_
  refine pu_callS (v := 0) (As := [.int (iI (u))]) (rest := [.ref y0]) TP_mv ⟨hx, hb, hml, hown, hts⟩ (c_M_isReader l u hur 0 (by rw [if_neg hu])) (va_cwS 1 hts gX1_seat_X1_isReader rfl rfl rfl (by decide +kernel) ⟨(Nat.le_of_ble_eq_true rfl), (Nat.le_of_ble_eq_true rfl)⟩) trivial rfl rfl hl.1 (Nat.le_of_ble_eq_true rfl) dX1_seat_2 ⟨Nat.zero_le _, Nat.zero_le _⟩ ?_
  refine pv_if_eq (tgt := 20) hx hb dX1_seat_5 (by decide) (by omega) (fun c_5 => ?_) (fun c_5 => ?_)
  · -- 5t
    refine pv_iconst hx hb dX1_seat_20 ?_
    refine va_put (D := D) (ci := 1) (v := .int (iI (1))) (ty := .int) (C := RX1) (T := TX1) (N := 10) hx hb hts hin tyX1 tyX1_ok nmX1 hown hK hP hD hS 0 rfl rfl 9 (by decide) q_thrown (fun _ h9 => h9) rfl (by decide +kernel) rfl rfl (Nat.le_of_ble_eq_true rfl) dX1_seat_21 (fun H locs hP hD hS => ?_)
    have hP : va_P D vwCl (W1 cI cZ y0 y1 y2 y3 y6 y7 y8 (n) (came) (MV) (1) f g z sp rf rc) H := hP
    have hD : va_D (mM y0 y1 y2 y3 y6 y7 y8) (W1 cI cZ y0 y1 y2 y3 y6 y7 y8 (n) (came) (MV) (1) f g z sp rf rc) := hD
    refine lv_aload_n hx hb dX1_seat_24 rfl (lv_at hl 0 rfl) ?_
    refine va_get (D := D) (ci := 1) (v := .int (iI (1))) (C := RX1) (T := TX1) (N := 10) hx hb hts hin hown hK hP 0 rfl rfl 9 (by decide) q_thrown (fun _ h9 => h9) rfl dX1_seat_25 ?_
    refine pv_if_le (tgt := 33) hx hb dX1_seat_28 (by decide) (by omega) (fun c_28 => ?_) (fun c_28 => ?_)
    · exact absurd c_28 (by omega)
    · -- 28f
      refine pv_iconst hx hb dX1_seat_31 ?_
      exact mu_iret hx hb hr hlocks hS dX1_seat_32 (by rfl) ⟨G, ZN, hGM, hMI, ⟨f, g, z, sp, rf, rc, hAf, hAg, hAz, hAsp, hArf, hArc, hP, hD.weaken (fun _ _ _ h => hmb _ h)⟩⟩
  · exact absurd c_5 (by omega)
set_option maxHeartbeats 4000000 in
set_option maxRecDepth 100000 in
theorem d_M_seat2 (l : Launch) (D : va_G) (cI cZ : ClassId) (base st : Nat) (Z : Nat → Nat) (y0 y1 y2 y3 y6 y7 y8 : Nat) {n came MV th : Int} {F Gp SP RF RC : Int → Int} (u : Int) (hu : 0 ≤ u ∧ u < 4) (x : Int) (hxr : (-2147483648 ≤ x ∧ x ≤ 2147483647)) (hrp : PL F n x (-1)) : mu_M l yX1_seat wsX1_seat ({ frames := 1, cells := 0, slots := 0, locals := 21 } : Room) [.ref y0, .int (iI (u)), .int (iI (x))] (AP D cI cZ base st Z y0 y1 y2 y3 y6 y7 y8 n came MV th F Gp SP RF RC) (some (.int (iI (0)))) (fun H => MA D cI cZ base y0 y1 y2 y3 y6 y7 y8 (n) (came) (MV) (1) (F) (Gp) (SP) (RF) (RC) H) (mM y0 y1 y2 y3 y6 y7 y8) := by
  refine mu_of (cc := cX1_seat) (maxL := 5) (ret := (some .int)) (own := RX1) (by decide) rfl rfl (Nat.le_of_ble_eq_true rfl) ?_
  intro p e s m below meth c ls B hCP hl hS
  obtain ⟨hx, hb, hml, hr, hts, hown, hlocks⟩ := B
  obtain ⟨hSWs, G, ZN, hGM, hMI, hMW⟩ := id hCP
  obtain ⟨hK, hZL, ⟨hstb, xs, hXL, hAL⟩, hTW⟩ := id hSWs
  obtain ⟨f, g, z, sp, rf, rc, hAf, hAg, hAz, hAsp, hArf, hArc, hP, hDb⟩ := id hMW
  have hD := MW_mD hDb
  have hmb := mM_b hDb
  have hbl := MW_lt hMW
  have hSW0 := hSWs
  have hl : lv_has ls 5 [(0, .ref y0), (1, .int (iI (u))), (2, .int (iI (x)))] := hl
  have hin : ∀ w ∈ u_ws RX1 TX1 10, w ∈ wsX1_seat := by decide +kernel
  have q_thrown := hts (.fieldLink RX1 29 "ShelfMarksModel" "thrown" "I") (by decide +kernel)
  refine lv_aload_n hx hb dX1_seat_0 rfl (lv_at hl 0 rfl) ?_
  refine lv_iload_n hx hb dX1_seat_1 rfl (lv_at hl 1 rfl) ?_
  refine pu_callS (v := 1) (As := [.int (iI (u))]) (rest := [.ref y0]) TP_mv ⟨hx, hb, hml, hown, hts⟩ (c_M_isReader l u (by omega) 1 (by rw [if_pos hu])) (va_cwS 1 hts gX1_seat_X1_isReader rfl rfl rfl (by decide +kernel) ⟨(Nat.le_of_ble_eq_true rfl), (Nat.le_of_ble_eq_true rfl)⟩) trivial rfl rfl hl.1 (Nat.le_of_ble_eq_true rfl) dX1_seat_2 ⟨Nat.zero_le _, Nat.zero_le _⟩ ?_
  refine pv_if_eq (tgt := 20) hx hb dX1_seat_5 (by decide) (by omega) (fun c_5 => ?_) (fun c_5 => ?_)
  · exact absurd c_5 (by omega)
  · -- 5f
    refine lv_aload_n hx hb dX1_seat_8 rfl (lv_at hl 0 rfl) ?_
    refine lv_iload_n hx hb dX1_seat_9 rfl (lv_at hl 2 rfl) ?_
    have hCP : MP D cI cZ base st Z y0 y1 y2 y3 y6 y7 y8 (n) (came) (MV) (th) (F) (G) (ZN) (SP) (RF) (RC) s s.heap := ⟨hSW0.behind hbl hmb hS, ⟨f, g, z, sp, rf, rc, hAf, hAg, hAz, hAsp, hArf, hArc, hP, hD.weaken (fun _ _ _ h => hmb _ h)⟩⟩
    refine pu_callV (v := 0) (As := [.int (iI (x))]) (rest := [.ref y0]) MP_mv ⟨hx, hb, hml, hown, hts⟩ (c_M_known l D cI cZ base st Z y0 y1 y2 y3 y6 y7 y8 hMI x hxr 0 (kn_0 hMI hrp).symm) (cwV 1 hts gX1_seat_X1_known rfl rfl rfl (by decide +kernel) ⟨(Nat.le_of_ble_eq_true rfl), (Nat.le_of_ble_eq_true rfl)⟩) hCP (MP_rc hCP) rfl rfl hl.1 (Nat.le_of_ble_eq_true rfl) dX1_seat_10 ⟨Nat.zero_le _, Nat.zero_le _⟩ ?_
    refine pv_if_eq (tgt := 20) hx hb dX1_seat_13 (by decide) (by omega) (fun c_13 => ?_) (fun c_13 => ?_)
    · -- 13t
      refine pv_iconst hx hb dX1_seat_20 ?_
      refine va_put (D := D) (ci := 1) (v := .int (iI (1))) (ty := .int) (C := RX1) (T := TX1) (N := 10) hx hb hts hin tyX1 tyX1_ok nmX1 hown hK hP hD hS 0 rfl rfl 9 (by decide) q_thrown (fun _ h9 => h9) rfl (by decide +kernel) rfl rfl (Nat.le_of_ble_eq_true rfl) dX1_seat_21 (fun H locs hP hD hS => ?_)
      have hP : va_P D vwCl (W1 cI cZ y0 y1 y2 y3 y6 y7 y8 (n) (came) (MV) (1) f g z sp rf rc) H := hP
      have hD : va_D (mM y0 y1 y2 y3 y6 y7 y8) (W1 cI cZ y0 y1 y2 y3 y6 y7 y8 (n) (came) (MV) (1) f g z sp rf rc) := hD
      refine lv_aload_n hx hb dX1_seat_24 rfl (lv_at hl 0 rfl) ?_
      refine va_get (D := D) (ci := 1) (v := .int (iI (1))) (C := RX1) (T := TX1) (N := 10) hx hb hts hin hown hK hP 0 rfl rfl 9 (by decide) q_thrown (fun _ h9 => h9) rfl dX1_seat_25 ?_
      refine pv_if_le (tgt := 33) hx hb dX1_seat_28 (by decide) (by omega) (fun c_28 => ?_) (fun c_28 => ?_)
      · exact absurd c_28 (by omega)
      · -- 28f
        refine pv_iconst hx hb dX1_seat_31 ?_
        exact mu_iret hx hb hr hlocks hS dX1_seat_32 (by rfl) ⟨G, ZN, hGM, hMI, ⟨f, g, z, sp, rf, rc, hAf, hAg, hAz, hAsp, hArf, hArc, hP, hD.weaken (fun _ _ _ h => hmb _ h)⟩⟩
    · exact absurd c_13 (by omega)
set_option maxHeartbeats 4000000 in
set_option maxRecDepth 100000 in
theorem c_M_passDay (l : Launch) (D : va_G) (cI cZ : ClassId) (base st : Nat) (Z : Nat → Nat) (y0 y1 y2 y3 y6 y7 y8 : Nat) {n came MV th : Int} {F Gp SP RF RC : Int → Int} (hn : 0 ≤ n ∧ n ≤ 60) (hF : ∀ k : Int, 0 ≤ k → k < n → 0 ≤ F k ∧ F k < 200) (hRF : ∀ k : Int, 0 ≤ k → k < 4 → -1 ≤ RF k ∧ RF k < 200) (hRI : ∀ k : Int, 0 ≤ k → k < 4 → RF k = -1 ∨ 0 ≤ pl F n (RF k)) : mu_M l yX1_passDay wsX1_passDay ({ frames := 2, cells := 0, slots := 0, locals := 44 } : Room) [.ref y0] (AP D cI cZ base st Z y0 y1 y2 y3 y6 y7 y8 n came MV th F Gp SP RF RC) (some (.int (iI (cn (fun j => decide (pdF F n RF j ≠ -1)) 4)))) (fun H => MA D cI cZ base y0 y1 y2 y3 y6 y7 y8 (n) (came) (MV) (0) (F) (Gp) (SP) (pdF F n RF) (pdC F n RF RC) H) (mM y0 y1 y2 y3 y6 y7 y8) := by
  refine mu_of (cc := cX1_passDay) (maxL := 3) (ret := (some .int)) (own := RX1) (by decide) rfl rfl (Nat.le_of_ble_eq_true rfl) ?_
  intro p e s m below meth c ls B hCP hl hS
  obtain ⟨hx, hb, hml, hr, hts, hown, hlocks⟩ := B
  obtain ⟨hSWs, G, ZN, hGM, hMI, hMW⟩ := id hCP
  obtain ⟨hK, hZL, ⟨hstb, xs, hXL, hAL⟩, hTW⟩ := id hSWs
  obtain ⟨f, g, z, sp, rf, rc, hAf, hAg, hAz, hAsp, hArf, hArc, hP, hDb⟩ := id hMW
  have hD := MW_mD hDb
  have hmb := mM_b hDb
  have hbl := MW_lt hMW
  have hSW0 := hSWs
  have hl : lv_has ls 3 [(0, .ref y0)] := hl
  have hin : ∀ w ∈ u_ws RX1 TX1 10, w ∈ wsX1_passDay := by decide +kernel
  have q_at := hts (.fieldLink RX1 23 "ShelfMarksModel" "at" "[I") (by decide +kernel)
  have q_read := hts (.fieldLink RX1 26 "ShelfMarksModel" "read" "[I") (by decide +kernel)
  have q_thrown := hts (.fieldLink RX1 29 "ShelfMarksModel" "thrown" "I") (by decide +kernel)
  refine lv_aload_n hx hb dX1_passDay_0 rfl (lv_at hl 0 rfl) ?_
  refine pv_iconst hx hb dX1_passDay_1 ?_
  refine va_put (D := D) (ci := 1) (v := .int (iI (0))) (ty := .int) (C := RX1) (T := TX1) (N := 10) hx hb hts hin tyX1 tyX1_ok nmX1 hown hK hP hD hS 0 rfl rfl 9 (by decide) q_thrown (fun _ h9 => h9) rfl (by decide +kernel) rfl rfl (Nat.le_of_ble_eq_true rfl) dX1_passDay_2 (fun H locs hP hD hS => ?_)
  have hP : va_P D vwCl (W1 cI cZ y0 y1 y2 y3 y6 y7 y8 (n) (came) (MV) (0) f g z sp rf rc) H := hP
  have hD : va_D (mM y0 y1 y2 y3 y6 y7 y8) (W1 cI cZ y0 y1 y2 y3 y6 y7 y8 (n) (came) (MV) (0) f g z sp rf rc) := hD
  refine pv_iconst hx hb dX1_passDay_5 ?_
  refine lv_istore_n (lv' := [(1, .int (iI (0))), (0, .ref y0)]) hx hb dX1_passDay_6 rfl hl (by decide) rfl (fun ls hl => ?_)
  refine pv_iconst hx hb dX1_passDay_7 ?_
  refine lv_istore_n (lv' := [(2, .int (iI (0))), (1, .int (iI (0))), (0, .ref y0)]) hx hb dX1_passDay_8 rfl hl (by decide) rfl (fun ls hl => ?_)
  have hloop9 : ∀ (fuel : Nat) (fd : Int) (k : Int) (R2 : Int → Int) (C2 : Int → Int) (H : Heap) (locs : List Loc) (ls : Array Slot), (4 - k) < fuel → (0 ≤ k ∧ k ≤ 4) → (∀ j : Int, 0 ≤ j → j < k → R2 j = pdF F n RF j ∧ C2 j = pdC F n RF RC j) → (∀ j : Int, k ≤ j → j < 4 → R2 j = RF j ∧ C2 j = RC j) → (fd = cn (fun j => decide (pdF F n RF j ≠ -1)) k.toNat) → MW D cI cZ base y0 y1 y2 y3 y6 y7 y8 (n) (came) (MV) (0) (F) (G) (ZN) (SP) (R2) (C2) H → va_S (mM y0 y1 y2 y3 y6 y7 y8) s.heap H locs → lv_has ls 3 [(0, .ref y0), (1, .int (iI (fd))), (2, .int (iI (k)))] → W p l e ({ frames := 2, cells := 0, slots := 0, locals := 44 } : Room) s m ([.ref y0] : List Value).toArray below meth c H locs 0 0 (MQ below (mu_Q (some (.int (iI (cn (fun j => decide (pdF F n RF j ≠ -1)) 4)))) (fun H => MA D cI cZ base y0 y1 y2 y3 y6 y7 y8 (n) (came) (MV) (0) (F) (Gp) (SP) (pdF F n RF) (pdC F n RF RC) H) (mM y0 y1 y2 y3 y6 y7 y8)) ([.ref y0] : List Value).toArray s 0 0 (mM y0 y1 y2 y3 y6 y7 y8)) (F0 m 9 ls []) := by
    intro fuel
    induction fuel with
    | zero => intro fd k R2 C2 H locs ls hfu hk hRa hRb hfd hC9 hS hl; exfalso; omega
    | succ fuel ih =>
      intro fd k R2 C2 H locs ls hfu hk hRa hRb hfd hC9 hS hl
      obtain ⟨f, g, z, sp, rf, rc, hAf, hAg, hAz, hAsp, hArf, hArc, hP, hDb⟩ := hC9
      have hD := MW_mD hDb
      refine lv_iload_n hx hb dX1_passDay_9 rfl (lv_at hl 2 rfl) ?_
      refine pv_iconst hx hb dX1_passDay_10 ?_
      refine pv_icmp_ge (tgt := 74) hx hb dX1_passDay_11 (by decide) (by omega) (fun c_11 => ?_) (fun c_11 => ?_)
      · -- 11t
        refine lv_iload_n hx hb dX1_passDay_74 rfl (lv_at hl 1 rfl) ?_
        exact mu_iret hx hb hr hlocks hS dX1_passDay_75 (by rw [hfd, show k.toNat = 4 by omega]) ⟨G, ZN, hGM, hMI, ⟨f, g, z, sp, rf, rc, hAf, hAg, hAz, hAsp, AR_to hArf (Int.le_refl _) (fun j h0 h1 => (hRa j h0 (by omega)).1), AR_to hArc (Int.le_refl _) (fun j h0 h1 => (hRa j h0 (by omega)).2), hP, hD.weaken (fun _ _ _ h => hmb _ h)⟩⟩
      · -- 11f
        refine lv_aload_n hx hb dX1_passDay_14 rfl (lv_at hl 0 rfl) ?_
        refine va_get (D := D) (ci := 1) (v := .ref y7) (C := RX1) (T := TX1) (N := 10) hx hb hts hin hown hK hP 0 rfl rfl 7 (by decide) q_at (fun _ h9 => h9) rfl dX1_passDay_15 ?_
        refine lv_iload_n hx hb dX1_passDay_18 rfl (lv_at hl 2 rfl) ?_
        refine pv_iald (i := k) (v := RF (k)) hx hb hK hP 5 0 rfl rfl (by omega) (by decide) ((hArf _ (by omega) (by omega)).trans (congrArg iI ((hRb k (by omega) (by omega)).1))) dX1_passDay_19 ?_
        have hrk := hRF k (by omega) (by omega)
        have hri := hRI k (by omega) (by omega)
        have hpp := pl_PL (F := F) hn.1 (RF k)
        refine pv_iconst hx hb dX1_passDay_20 ?_
        refine pv_icmp_eq (tgt := 68) hx hb dX1_passDay_21 (by decide) (by omega) (fun c_21 => ?_) (fun c_21 => ?_)
        · -- 21t
          have hp0 : pl F n (RF k) = -1 := pl_m1 hn.1 hF c_21
          refine pv_iinc (lv' := [(2, .int (iI (k + 1))), (0, .ref y0), (1, .int (iI (fd)))]) hx hb dX1_passDay_68 hl (k := 2) rfl (by decide) rfl (fun ls hl => ?_)
          refine lv_goto (tgt := 9) hx hb dX1_passDay_71 (by decide) ?_
          exact ih (fd) (k + 1) (_) (_) _ _ ls (by omega) (by omega) (fun j h0 h1 => by rcases (show j = k ∨ j < k by omega) with z | z; (rw [z]; unfold pdF pdC; rw [if_pos hp0, if_pos hp0]; exact hRb k (by omega) (by omega)); exact hRa j h0 z) (fun j h0 h1 => hRb j (by omega) h1) (by rw [hfd]; exact (cn_f _ (by omega) (decide_eq_false (by rw [show pdF F n RF k = RF k by unfold pdF; rw [if_pos hp0]]; exact fun z => z c_21))).symm) ⟨f, g, z, sp, rf, rc, hAf, hAg, hAz, hAsp, hArf, hArc, hP, hD.weaken (fun _ _ _ h => hmb _ h)⟩ hS (lv_sub hl [1, 2, 0] rfl)
        · -- 21f
          have hp0 : ¬ pl F n (RF k) = -1 := by omega
          refine lv_aload_n hx hb dX1_passDay_24 rfl (lv_at hl 0 rfl) ?_
          refine va_get (D := D) (ci := 1) (v := .ref y8) (C := RX1) (T := TX1) (N := 10) hx hb hts hin hown hK hP 0 rfl rfl 8 (by decide) q_read (fun _ h9 => h9) rfl dX1_passDay_25 ?_
          refine lv_iload_n hx hb dX1_passDay_28 rfl (lv_at hl 2 rfl) ?_
          refine lv_dup2_11 hx hb dX1_passDay_29 rfl rfl ?_
          refine pv_iald (i := k) (v := RC (k)) hx hb hK hP 6 0 rfl rfl (by omega) (by decide) ((hArc _ (by omega) (by omega)).trans (congrArg iI ((hRb k (by omega) (by omega)).2))) dX1_passDay_30 ?_
          refine pv_iconst hx hb dX1_passDay_31 ?_
          refine pv_iadd hx hb dX1_passDay_32 ?_
          refine pv_iast (i := k) (v := (RC (k)) + (1)) hx hb hK hP hD hS 6 0 rfl rfl (by omega) (by decide) dX1_passDay_33 (fun H locs hP hD hS => ?_)
          have hP : va_P D vwCl (W1 cI cZ y0 y1 y2 y3 y6 y7 y8 (n) (came) (MV) (0) f g z sp rf (upd rc (k).toNat (iI ((RC (k)) + (1))))) H := hP
          have hD : va_D (mM y0 y1 y2 y3 y6 y7 y8) (W1 cI cZ y0 y1 y2 y3 y6 y7 y8 (n) (came) (MV) (0) f g z sp rf (upd rc (k).toNat (iI ((RC (k)) + (1))))) := hD
          have hArc := AR_up (k := k) (v := (RC (k)) + (1)) hArc (by omega)
          generalize upd rc (k).toNat (iI ((RC (k)) + (1))) = rc at hP hD hArc
          refine lv_aload_n hx hb dX1_passDay_34 rfl (lv_at hl 0 rfl) ?_
          refine va_get (D := D) (ci := 1) (v := .ref y7) (C := RX1) (T := TX1) (N := 10) hx hb hts hin hown hK hP 0 rfl rfl 7 (by decide) q_at (fun _ h9 => h9) rfl dX1_passDay_35 ?_
          refine lv_iload_n hx hb dX1_passDay_38 rfl (lv_at hl 2 rfl) ?_
          refine lv_aload_n hx hb dX1_passDay_39 rfl (lv_at hl 0 rfl) ?_
          refine lv_aload_n hx hb dX1_passDay_40 rfl (lv_at hl 0 rfl) ?_
          refine va_get (D := D) (ci := 1) (v := .ref y7) (C := RX1) (T := TX1) (N := 10) hx hb hts hin hown hK hP 0 rfl rfl 7 (by decide) q_at (fun _ h9 => h9) rfl dX1_passDay_41 ?_
          refine lv_iload_n hx hb dX1_passDay_44 rfl (lv_at hl 2 rfl) ?_
          refine pv_iald (i := k) (v := RF (k)) hx hb hK hP 5 0 rfl rfl (by omega) (by decide) ((hArf _ (by omega) (by omega)).trans (congrArg iI ((hRb k (by omega) (by omega)).1))) dX1_passDay_45 ?_
          have hfr := fa_rg hF (pl F n (RF k) + 1)
          have hCP : MP D cI cZ base st Z y0 y1 y2 y3 y6 y7 y8 (n) (came) (MV) (0) (F) (G) (ZN) (SP) (R2) (uI (C2) (k) ((RC (k)) + (1))) s H := ⟨hSW0.behind hbl hmb hS, ⟨f, g, z, sp, rf, rc, hAf, hAg, hAz, hAsp, hArf, hArc, hP, hD.weaken (fun _ _ _ h => hmb _ h)⟩⟩
          refine pu_callV (v := fa F n (pl F n (RF k) + 1)) (As := [.int (iI (RF (k)))]) (rest := [.int (iI (k)), .ref y7]) MP_mv ⟨hx, hb, hml, hown, hts⟩ (c_M_behind l D cI cZ base st Z y0 y1 y2 y3 y6 y7 y8 hn hF (RF k) (by omega) _ hpp (by omega) _ rfl) (cwV 1 hts gX1_passDay_X1_behind rfl rfl rfl (by decide +kernel) ⟨(Nat.le_of_ble_eq_true rfl), (Nat.le_of_ble_eq_true rfl)⟩) hCP (MP_rc hCP) rfl rfl hl.1 (Nat.le_of_ble_eq_true rfl) dX1_passDay_46 ⟨Nat.zero_le _, Nat.zero_le _⟩ ?_
          refine pv_iast (i := k) (v := fa F n (pl F n (RF k) + 1)) hx hb hK hP hD hS 5 0 rfl rfl (by omega) (by decide) dX1_passDay_49 (fun H locs hP hD hS => ?_)
          have hP : va_P D vwCl (W1 cI cZ y0 y1 y2 y3 y6 y7 y8 (n) (came) (MV) (0) f g z sp (upd rf (k).toNat (iI (fa F n (pl F n (RF k) + 1)))) rc) H := hP
          have hD : va_D (mM y0 y1 y2 y3 y6 y7 y8) (W1 cI cZ y0 y1 y2 y3 y6 y7 y8 (n) (came) (MV) (0) f g z sp (upd rf (k).toNat (iI (fa F n (pl F n (RF k) + 1)))) rc) := hD
          have hArf := AR_up (k := k) (v := fa F n (pl F n (RF k) + 1)) hArf (by omega)
          generalize upd rf (k).toNat (iI (fa F n (pl F n (RF k) + 1))) = rf at hP hD hArf
          refine lv_iload_n hx hb dX1_passDay_50 rfl (lv_at hl 1 rfl) ?_
          refine lv_aload_n hx hb dX1_passDay_51 rfl (lv_at hl 0 rfl) ?_
          refine va_get (D := D) (ci := 1) (v := .ref y7) (C := RX1) (T := TX1) (N := 10) hx hb hts hin hown hK hP 0 rfl rfl 7 (by decide) q_at (fun _ h9 => h9) rfl dX1_passDay_52 ?_
          refine lv_iload_n hx hb dX1_passDay_55 rfl (lv_at hl 2 rfl) ?_
          refine pv_iald (i := k) (v := fa F n (pl F n (RF k) + 1)) hx hb hK hP 5 0 rfl rfl (by omega) (by decide) ((hArf _ (by omega) (by omega)).trans (congrArg iI uI_s)) dX1_passDay_56 ?_
          refine pv_iconst hx hb dX1_passDay_57 ?_
          refine pv_icmp_ne (tgt := 65) hx hb dX1_passDay_58 (by decide) (by omega) (fun c_58 => ?_) (fun c_58 => ?_)
          · -- 58t
            refine pv_iconst hx hb dX1_passDay_65 ?_
            refine pv_iadd hx hb dX1_passDay_66 ?_
            refine lv_istore_n (lv' := [(1, .int (iI ((fd) + (1)))), (0, .ref y0), (2, .int (iI (k)))]) hx hb dX1_passDay_67 rfl hl (by decide) rfl (fun ls hl => ?_)
            refine pv_iinc (lv' := [(2, .int (iI (k + 1))), (1, .int (iI ((fd) + (1)))), (0, .ref y0)]) hx hb dX1_passDay_68 hl (k := 2) rfl (by decide) rfl (fun ls hl => ?_)
            refine lv_goto (tgt := 9) hx hb dX1_passDay_71 (by decide) ?_
            exact ih ((fd) + (1)) (k + 1) (_) (_) _ _ ls (by omega) (by omega) (fun j h0 h1 => by unfold uI; rcases (show j = k ∨ j < k by omega) with z | z; (rw [if_pos z, if_pos z, z]; unfold pdF pdC; rw [if_neg hp0, if_neg hp0]; exact ⟨rfl, rfl⟩); (rw [if_neg (by omega), if_neg (by omega)]; exact hRa j h0 z)) (fun j h0 h1 => by unfold uI; rw [if_neg (by omega), if_neg (by omega)]; exact hRb j (by omega) h1) (by rw [hfd]; exact (cn_t _ (by omega) (decide_eq_true (by rw [(show pdF F n RF k = fa F n (pl F n (RF k) + 1) by unfold pdF; rw [if_neg hp0])]; exact c_58))).symm) ⟨f, g, z, sp, rf, rc, hAf, hAg, hAz, hAsp, hArf, hArc, hP, hD.weaken (fun _ _ _ h => hmb _ h)⟩ hS (lv_sub hl [2, 1, 0] rfl)
          · -- 58f
            refine pv_iconst hx hb dX1_passDay_61 ?_
            refine lv_goto (tgt := 66) hx hb dX1_passDay_62 (by decide) ?_
            refine pv_iadd hx hb dX1_passDay_66 ?_
            refine lv_istore_n (lv' := [(1, .int (iI ((fd) + (0)))), (0, .ref y0), (2, .int (iI (k)))]) hx hb dX1_passDay_67 rfl hl (by decide) rfl (fun ls hl => ?_)
            refine pv_iinc (lv' := [(2, .int (iI (k + 1))), (1, .int (iI ((fd) + (0)))), (0, .ref y0)]) hx hb dX1_passDay_68 hl (k := 2) rfl (by decide) rfl (fun ls hl => ?_)
            refine lv_goto (tgt := 9) hx hb dX1_passDay_71 (by decide) ?_
            exact ih ((fd) + (0)) (k + 1) (_) (_) _ _ ls (by omega) (by omega) (fun j h0 h1 => by unfold uI; rcases (show j = k ∨ j < k by omega) with z | z; (rw [if_pos z, if_pos z, z]; unfold pdF pdC; rw [if_neg hp0, if_neg hp0]; exact ⟨rfl, rfl⟩); (rw [if_neg (by omega), if_neg (by omega)]; exact hRa j h0 z)) (fun j h0 h1 => by unfold uI; rw [if_neg (by omega), if_neg (by omega)]; exact hRb j (by omega) h1) (by rw [Int.add_zero, hfd]; exact (cn_f _ (by omega) (decide_eq_false (by rw [(show pdF F n RF k = fa F n (pl F n (RF k) + 1) by unfold pdF; rw [if_neg hp0])]; exact fun z => z c_58))).symm) ⟨f, g, z, sp, rf, rc, hAf, hAg, hAz, hAsp, hArf, hArc, hP, hD.weaken (fun _ _ _ h => hmb _ h)⟩ hS (lv_sub hl [2, 1, 0] rfl)
  exact hloop9 ((4 : Int).toNat + 1) (0) (0) (RF) (RC) _ _ ls (by omega) (by omega) (fun k h0 h1 => absurd h1 (by omega)) (fun k h0 h1 => ⟨rfl, rfl⟩) (rfl) ⟨f, g, z, sp, rf, rc, hAf, hAg, hAz, hAsp, hArf, hArc, hP, hD.weaken (fun _ _ _ h => hmb _ h)⟩ hS (lv_sub hl [2, 1, 0] rfl)
set_option maxHeartbeats 4000000 in
set_option maxRecDepth 100000 in
theorem c_M_daysTo (l : Launch) (D : va_G) (cI cZ : ClassId) (base st : Nat) (Z : Nat → Nat) (y0 y1 y2 y3 y6 y7 y8 : Nat) {n came MV th : Int} {F Gp SP RF RC : Int → Int} (hn : 0 ≤ n ∧ n ≤ 60) (hF : ∀ k : Int, 0 ≤ k → k < n → 0 ≤ F k ∧ F k < 200) (hRF : ∀ k : Int, 0 ≤ k → k < 4 → -1 ≤ RF k ∧ RF k < 200) (u v : Int) (hu : 0 ≤ u ∧ u < 4) (hv : 0 ≤ v ∧ v < 4) (ru : Int) (hru : PL F n (RF u) ru) (hru0 : RF u = -1 ∧ ru = -1 ∨ RF u ≠ -1 ∧ 0 ≤ ru) (rv : Int) (hrv : PL F n (RF v) rv) (hrv0 : RF v = -1 ∧ rv = -1 ∨ RF v ≠ -1 ∧ 0 ≤ rv) (r : Int) (hr9 : r = if ru = -1 ∨ rv < ru then -1 else rv - ru) : mu_M l yX1_daysTo wsX1_daysTo ({ frames := 1, cells := 0, slots := 0, locals := 22 } : Room) [.ref y0, .int (iI (u)), .int (iI (v))] (AP D cI cZ base st Z y0 y1 y2 y3 y6 y7 y8 n came MV th F Gp SP RF RC) (some (.int (iI (r)))) (fun H => MA D cI cZ base y0 y1 y2 y3 y6 y7 y8 (n) (came) (MV) (0) (F) (Gp) (SP) (RF) (RC) H) (mM y0 y1 y2 y3 y6 y7 y8) := by
  refine mu_of (cc := cX1_daysTo) (maxL := 4) (ret := (some .int)) (own := RX1) (by decide) rfl rfl (Nat.le_of_ble_eq_true rfl) ?_
  intro p e s m below meth c ls B hCP hl hS
  obtain ⟨hx, hb, hml, hr, hts, hown, hlocks⟩ := B
  obtain ⟨hSWs, G, ZN, hGM, hMI, hMW⟩ := id hCP
  obtain ⟨hK, hZL, ⟨hstb, xs, hXL, hAL⟩, hTW⟩ := id hSWs
  obtain ⟨f, g, z, sp, rf, rc, hAf, hAg, hAz, hAsp, hArf, hArc, hP, hDb⟩ := id hMW
  have hD := MW_mD hDb
  have hmb := mM_b hDb
  have hbl := MW_lt hMW
  have hSW0 := hSWs
  have hl : lv_has ls 4 [(0, .ref y0), (1, .int (iI (u))), (2, .int (iI (v)))] := hl
  have hin : ∀ w ∈ u_ws RX1 TX1 10, w ∈ wsX1_daysTo := by decide +kernel
  have q_at := hts (.fieldLink RX1 23 "ShelfMarksModel" "at" "[I") (by decide +kernel)
  have q_thrown := hts (.fieldLink RX1 29 "ShelfMarksModel" "thrown" "I") (by decide +kernel)
  refine lv_aload_n hx hb dX1_daysTo_0 rfl (lv_at hl 0 rfl) ?_
  refine lv_iload_n hx hb dX1_daysTo_1 rfl (lv_at hl 1 rfl) ?_
  refine pu_callS (v := 1) (As := [.int (iI (u))]) (rest := [.ref y0]) TP_mv ⟨hx, hb, hml, hown, hts⟩ (c_M_isReader l u (by omega) 1 (by rw [if_pos hu])) (va_cwS 1 hts gX1_daysTo_X1_isReader rfl rfl rfl (by decide +kernel) ⟨(Nat.le_of_ble_eq_true rfl), (Nat.le_of_ble_eq_true rfl)⟩) trivial rfl rfl hl.1 (Nat.le_of_ble_eq_true rfl) dX1_daysTo_2 ⟨Nat.zero_le _, Nat.zero_le _⟩ ?_
  refine pv_if_eq (tgt := 19) hx hb dX1_daysTo_5 (by decide) (by omega) (fun c_5 => ?_) (fun c_5 => ?_)
  · exact absurd c_5 (by omega)
  · -- 5f
    have hfu := hRF u (by omega) (by omega)
    have hfv := hRF v (by omega) (by omega)
    have hpu := PL_rg hn.1 hru
    have hpv := PL_rg hn.1 hrv
    refine lv_iload_n hx hb dX1_daysTo_8 rfl (lv_at hl 2 rfl) ?_
    refine pu_callS (v := 1) (As := [.int (iI (v))]) (rest := [.ref y0]) TP_mv ⟨hx, hb, hml, hown, hts⟩ (c_M_isReader l v (by omega) 1 (by rw [if_pos hv])) (va_cwS 1 hts gX1_daysTo_X1_isReader rfl rfl rfl (by decide +kernel) ⟨(Nat.le_of_ble_eq_true rfl), (Nat.le_of_ble_eq_true rfl)⟩) trivial rfl rfl hl.1 (Nat.le_of_ble_eq_true rfl) dX1_daysTo_9 ⟨Nat.zero_le _, Nat.zero_le _⟩ ?_
    refine pv_if_eq (tgt := 19) hx hb dX1_daysTo_12 (by decide) (by omega) (fun c_12 => ?_) (fun c_12 => ?_)
    · exact absurd c_12 (by omega)
    · -- 12f
      refine pv_iconst hx hb dX1_daysTo_15 ?_
      refine lv_goto (tgt := 20) hx hb dX1_daysTo_16 (by decide) ?_
      refine va_put (D := D) (ci := 1) (v := .int (iI (0))) (ty := .int) (C := RX1) (T := TX1) (N := 10) hx hb hts hin tyX1 tyX1_ok nmX1 hown hK hP hD hS 0 rfl rfl 9 (by decide) q_thrown (fun _ h9 => h9) rfl (by decide +kernel) rfl rfl (Nat.le_of_ble_eq_true rfl) dX1_daysTo_20 (fun H locs hP hD hS => ?_)
      have hP : va_P D vwCl (W1 cI cZ y0 y1 y2 y3 y6 y7 y8 (n) (came) (MV) (0) f g z sp rf rc) H := hP
      have hD : va_D (mM y0 y1 y2 y3 y6 y7 y8) (W1 cI cZ y0 y1 y2 y3 y6 y7 y8 (n) (came) (MV) (0) f g z sp rf rc) := hD
      refine lv_aload_n hx hb dX1_daysTo_23 rfl (lv_at hl 0 rfl) ?_
      refine va_get (D := D) (ci := 1) (v := .int (iI (0))) (C := RX1) (T := TX1) (N := 10) hx hb hts hin hown hK hP 0 rfl rfl 9 (by decide) q_thrown (fun _ h9 => h9) rfl dX1_daysTo_24 ?_
      refine pv_if_gt (tgt := 50) hx hb dX1_daysTo_27 (by decide) (by omega) (fun c_27 => ?_) (fun c_27 => ?_)
      · exact absurd c_27 (by omega)
      · -- 27f
        refine lv_aload_n hx hb dX1_daysTo_30 rfl (lv_at hl 0 rfl) ?_
        refine va_get (D := D) (ci := 1) (v := .ref y7) (C := RX1) (T := TX1) (N := 10) hx hb hts hin hown hK hP 0 rfl rfl 7 (by decide) q_at (fun _ h9 => h9) rfl dX1_daysTo_31 ?_
        refine lv_iload_n hx hb dX1_daysTo_34 rfl (lv_at hl 1 rfl) ?_
        refine pv_iald (i := u) (v := RF (u)) hx hb hK hP 5 0 rfl rfl (by omega) (by decide) (hArf _ (by omega) (by omega)) dX1_daysTo_35 ?_
        refine pv_iconst hx hb dX1_daysTo_36 ?_
        refine pv_icmp_eq (tgt := 50) hx hb dX1_daysTo_37 (by decide) (by omega) (fun c_37 => ?_) (fun c_37 => ?_)
        · -- 37t
          refine lv_aload_n hx hb dX1_daysTo_50 rfl (lv_at hl 0 rfl) ?_
          refine va_get (D := D) (ci := 1) (v := .int (iI (0))) (C := RX1) (T := TX1) (N := 10) hx hb hts hin hown hK hP 0 rfl rfl 9 (by decide) q_thrown (fun _ h9 => h9) rfl dX1_daysTo_51 ?_
          refine pv_if_le (tgt := 61) hx hb dX1_daysTo_54 (by decide) (by omega) (fun c_54 => ?_) (fun c_54 => ?_)
          · -- 54t
            refine pv_iconst hx hb dX1_daysTo_61 ?_
            exact mu_iret hx hb hr hlocks hS dX1_daysTo_62 (by rw [hr9, if_pos (by omega)]) ⟨G, ZN, hGM, hMI, ⟨f, g, z, sp, rf, rc, hAf, hAg, hAz, hAsp, hArf, hArc, hP, hD.weaken (fun _ _ _ h => hmb _ h)⟩⟩
          · exact absurd c_54 (by omega)
        · -- 37f
          refine lv_aload_n hx hb dX1_daysTo_40 rfl (lv_at hl 0 rfl) ?_
          refine va_get (D := D) (ci := 1) (v := .ref y7) (C := RX1) (T := TX1) (N := 10) hx hb hts hin hown hK hP 0 rfl rfl 7 (by decide) q_at (fun _ h9 => h9) rfl dX1_daysTo_41 ?_
          refine lv_iload_n hx hb dX1_daysTo_44 rfl (lv_at hl 2 rfl) ?_
          refine pv_iald (i := v) (v := RF (v)) hx hb hK hP 5 0 rfl rfl (by omega) (by decide) (hArf _ (by omega) (by omega)) dX1_daysTo_45 ?_
          refine pv_iconst hx hb dX1_daysTo_46 ?_
          refine pv_icmp_ne (tgt := 63) hx hb dX1_daysTo_47 (by decide) (by omega) (fun c_47 => ?_) (fun c_47 => ?_)
          · -- 47t
            refine lv_aload_n hx hb dX1_daysTo_63 rfl (lv_at hl 0 rfl) ?_
            refine lv_aload_n hx hb dX1_daysTo_64 rfl (lv_at hl 0 rfl) ?_
            refine va_get (D := D) (ci := 1) (v := .ref y7) (C := RX1) (T := TX1) (N := 10) hx hb hts hin hown hK hP 0 rfl rfl 7 (by decide) q_at (fun _ h9 => h9) rfl dX1_daysTo_65 ?_
            refine lv_iload_n hx hb dX1_daysTo_68 rfl (lv_at hl 2 rfl) ?_
            refine pv_iald (i := v) (v := RF (v)) hx hb hK hP 5 0 rfl rfl (by omega) (by decide) (hArf _ (by omega) (by omega)) dX1_daysTo_69 ?_
            have hCP : MP D cI cZ base st Z y0 y1 y2 y3 y6 y7 y8 (n) (came) (MV) (0) (F) (G) (ZN) (SP) (RF) (RC) s H := ⟨hSW0.behind hbl hmb hS, ⟨f, g, z, sp, rf, rc, hAf, hAg, hAz, hAsp, hArf, hArc, hP, hD.weaken (fun _ _ _ h => hmb _ h)⟩⟩
            refine pu_callV (v := rv) (As := [.int (iI (RF (v)))]) (rest := []) MP_mv ⟨hx, hb, hml, hown, hts⟩ (c_M_place l D cI cZ base st Z y0 y1 y2 y3 y6 y7 y8 hn hF (RF v) (by omega) rv hrv (by omega)) (cwV 1 hts gX1_daysTo_X1_place rfl rfl rfl (by decide +kernel) ⟨(Nat.le_of_ble_eq_true rfl), (Nat.le_of_ble_eq_true rfl)⟩) hCP (MP_rc hCP) rfl rfl hl.1 (Nat.le_of_ble_eq_true rfl) dX1_daysTo_70 ⟨Nat.zero_le _, Nat.zero_le _⟩ ?_
            refine lv_aload_n hx hb dX1_daysTo_73 rfl (lv_at hl 0 rfl) ?_
            refine lv_aload_n hx hb dX1_daysTo_74 rfl (lv_at hl 0 rfl) ?_
            refine va_get (D := D) (ci := 1) (v := .ref y7) (C := RX1) (T := TX1) (N := 10) hx hb hts hin hown hK hP 0 rfl rfl 7 (by decide) q_at (fun _ h9 => h9) rfl dX1_daysTo_75 ?_
            refine lv_iload_n hx hb dX1_daysTo_78 rfl (lv_at hl 1 rfl) ?_
            refine pv_iald (i := u) (v := RF (u)) hx hb hK hP 5 0 rfl rfl (by omega) (by decide) (hArf _ (by omega) (by omega)) dX1_daysTo_79 ?_
            have hCP : MP D cI cZ base st Z y0 y1 y2 y3 y6 y7 y8 (n) (came) (MV) (0) (F) (G) (ZN) (SP) (RF) (RC) s H := ⟨hSW0.behind hbl hmb hS, ⟨f, g, z, sp, rf, rc, hAf, hAg, hAz, hAsp, hArf, hArc, hP, hD.weaken (fun _ _ _ h => hmb _ h)⟩⟩
            refine pu_callV (v := ru) (As := [.int (iI (RF (u)))]) (rest := [.int (iI (rv))]) MP_mv ⟨hx, hb, hml, hown, hts⟩ (c_M_place l D cI cZ base st Z y0 y1 y2 y3 y6 y7 y8 hn hF (RF u) (by omega) ru hru (by omega)) (cwV 1 hts gX1_daysTo_X1_place rfl rfl rfl (by decide +kernel) ⟨(Nat.le_of_ble_eq_true rfl), (Nat.le_of_ble_eq_true rfl)⟩) hCP (MP_rc hCP) rfl rfl hl.1 (Nat.le_of_ble_eq_true rfl) dX1_daysTo_80 ⟨Nat.zero_le _, Nat.zero_le _⟩ ?_
            refine pv_isub hx hb dX1_daysTo_83 ?_
            refine lv_istore_n (lv' := [(3, .int (iI ((rv) - (ru)))), (0, .ref y0), (1, .int (iI (u))), (2, .int (iI (v)))]) hx hb dX1_daysTo_84 rfl hl (by decide) rfl (fun ls hl => ?_)
            refine lv_iload_n hx hb dX1_daysTo_85 rfl (lv_at hl 0 rfl) ?_
            refine pv_if_ge (tgt := 93) hx hb dX1_daysTo_86 (by decide) (by omega) (fun c_86 => ?_) (fun c_86 => ?_)
            · -- 86t
              refine lv_iload_n hx hb dX1_daysTo_93 rfl (lv_at hl 0 rfl) ?_
              exact mu_iret hx hb hr hlocks hS dX1_daysTo_94 (by rw [hr9, if_neg (by omega)]) ⟨G, ZN, hGM, hMI, ⟨f, g, z, sp, rf, rc, hAf, hAg, hAz, hAsp, hArf, hArc, hP, hD.weaken (fun _ _ _ h => hmb _ h)⟩⟩
            · -- 86f
              refine pv_iconst hx hb dX1_daysTo_89 ?_
              refine lv_goto (tgt := 94) hx hb dX1_daysTo_90 (by decide) ?_
              exact mu_iret hx hb hr hlocks hS dX1_daysTo_94 (by rw [hr9, if_pos (by omega)]) ⟨G, ZN, hGM, hMI, ⟨f, g, z, sp, rf, rc, hAf, hAg, hAz, hAsp, hArf, hArc, hP, hD.weaken (fun _ _ _ h => hmb _ h)⟩⟩
          · -- 47f
            refine lv_aload_n hx hb dX1_daysTo_50 rfl (lv_at hl 0 rfl) ?_
            refine va_get (D := D) (ci := 1) (v := .int (iI (0))) (C := RX1) (T := TX1) (N := 10) hx hb hts hin hown hK hP 0 rfl rfl 9 (by decide) q_thrown (fun _ h9 => h9) rfl dX1_daysTo_51 ?_
            refine pv_if_le (tgt := 61) hx hb dX1_daysTo_54 (by decide) (by omega) (fun c_54 => ?_) (fun c_54 => ?_)
            · -- 54t
              refine pv_iconst hx hb dX1_daysTo_61 ?_
              exact mu_iret hx hb hr hlocks hS dX1_daysTo_62 (by rw [hr9, if_pos (by omega)]) ⟨G, ZN, hGM, hMI, ⟨f, g, z, sp, rf, rc, hAf, hAg, hAz, hAsp, hArf, hArc, hP, hD.weaken (fun _ _ _ h => hmb _ h)⟩⟩
            · exact absurd c_54 (by omega)
set_option maxHeartbeats 4000000 in
set_option maxRecDepth 100000 in
theorem d_M_daysTo (l : Launch) (D : va_G) (cI cZ : ClassId) (base st : Nat) (Z : Nat → Nat) (y0 y1 y2 y3 y6 y7 y8 : Nat) {n came MV th : Int} {F Gp SP RF RC : Int → Int} (u v : Int) (hur : (-2147483648 ≤ u ∧ u ≤ 2147483647)) (hu : ¬ (0 ≤ u ∧ u < 4)) : mu_M l yX1_daysTo wsX1_daysTo ({ frames := 1, cells := 0, slots := 0, locals := 20 } : Room) [.ref y0, .int (iI (u)), .int (iI (v))] (AP D cI cZ base st Z y0 y1 y2 y3 y6 y7 y8 n came MV th F Gp SP RF RC) (some (.int (iI (0)))) (fun H => MA D cI cZ base y0 y1 y2 y3 y6 y7 y8 (n) (came) (MV) (1) (F) (Gp) (SP) (RF) (RC) H) (mM y0 y1 y2 y3 y6 y7 y8) := by
  refine mu_of (cc := cX1_daysTo) (maxL := 4) (ret := (some .int)) (own := RX1) (by decide) rfl rfl (Nat.le_of_ble_eq_true rfl) ?_
  intro p e s m below meth c ls B hCP hl hS
  obtain ⟨hx, hb, hml, hr, hts, hown, hlocks⟩ := B
  obtain ⟨hSWs, G, ZN, hGM, hMI, hMW⟩ := id hCP
  obtain ⟨hK, hZL, ⟨hstb, xs, hXL, hAL⟩, hTW⟩ := id hSWs
  obtain ⟨f, g, z, sp, rf, rc, hAf, hAg, hAz, hAsp, hArf, hArc, hP, hDb⟩ := id hMW
  have hD := MW_mD hDb
  have hmb := mM_b hDb
  have hbl := MW_lt hMW
  have hSW0 := hSWs
  have hl : lv_has ls 4 [(0, .ref y0), (1, .int (iI (u))), (2, .int (iI (v)))] := hl
  have hin : ∀ w ∈ u_ws RX1 TX1 10, w ∈ wsX1_daysTo := by decide +kernel
  have q_thrown := hts (.fieldLink RX1 29 "ShelfMarksModel" "thrown" "I") (by decide +kernel)
  refine lv_aload_n hx hb dX1_daysTo_0 rfl (lv_at hl 0 rfl) ?_
  refine lv_iload_n hx hb dX1_daysTo_1 rfl (lv_at hl 1 rfl) ?_
  refine pu_callS (v := 0) (As := [.int (iI (u))]) (rest := [.ref y0]) TP_mv ⟨hx, hb, hml, hown, hts⟩ (c_M_isReader l u hur 0 (by rw [if_neg hu])) (va_cwS 1 hts gX1_daysTo_X1_isReader rfl rfl rfl (by decide +kernel) ⟨(Nat.le_of_ble_eq_true rfl), (Nat.le_of_ble_eq_true rfl)⟩) trivial rfl rfl hl.1 (Nat.le_of_ble_eq_true rfl) dX1_daysTo_2 ⟨Nat.zero_le _, Nat.zero_le _⟩ ?_
  refine pv_if_eq (tgt := 19) hx hb dX1_daysTo_5 (by decide) (by omega) (fun c_5 => ?_) (fun c_5 => ?_)
  · -- 5t
    refine pv_iconst hx hb dX1_daysTo_19 ?_
    refine va_put (D := D) (ci := 1) (v := .int (iI (1))) (ty := .int) (C := RX1) (T := TX1) (N := 10) hx hb hts hin tyX1 tyX1_ok nmX1 hown hK hP hD hS 0 rfl rfl 9 (by decide) q_thrown (fun _ h9 => h9) rfl (by decide +kernel) rfl rfl (Nat.le_of_ble_eq_true rfl) dX1_daysTo_20 (fun H locs hP hD hS => ?_)
    have hP : va_P D vwCl (W1 cI cZ y0 y1 y2 y3 y6 y7 y8 (n) (came) (MV) (1) f g z sp rf rc) H := hP
    have hD : va_D (mM y0 y1 y2 y3 y6 y7 y8) (W1 cI cZ y0 y1 y2 y3 y6 y7 y8 (n) (came) (MV) (1) f g z sp rf rc) := hD
    refine lv_aload_n hx hb dX1_daysTo_23 rfl (lv_at hl 0 rfl) ?_
    refine va_get (D := D) (ci := 1) (v := .int (iI (1))) (C := RX1) (T := TX1) (N := 10) hx hb hts hin hown hK hP 0 rfl rfl 9 (by decide) q_thrown (fun _ h9 => h9) rfl dX1_daysTo_24 ?_
    refine pv_if_gt (tgt := 50) hx hb dX1_daysTo_27 (by decide) (by omega) (fun c_27 => ?_) (fun c_27 => ?_)
    · -- 27t
      refine lv_aload_n hx hb dX1_daysTo_50 rfl (lv_at hl 0 rfl) ?_
      refine va_get (D := D) (ci := 1) (v := .int (iI (1))) (C := RX1) (T := TX1) (N := 10) hx hb hts hin hown hK hP 0 rfl rfl 9 (by decide) q_thrown (fun _ h9 => h9) rfl dX1_daysTo_51 ?_
      refine pv_if_le (tgt := 61) hx hb dX1_daysTo_54 (by decide) (by omega) (fun c_54 => ?_) (fun c_54 => ?_)
      · exact absurd c_54 (by omega)
      · -- 54f
        refine pv_iconst hx hb dX1_daysTo_57 ?_
        refine lv_goto (tgt := 62) hx hb dX1_daysTo_58 (by decide) ?_
        exact mu_iret hx hb hr hlocks hS dX1_daysTo_62 (by rfl) ⟨G, ZN, hGM, hMI, ⟨f, g, z, sp, rf, rc, hAf, hAg, hAz, hAsp, hArf, hArc, hP, hD.weaken (fun _ _ _ h => hmb _ h)⟩⟩
    · exact absurd c_27 (by omega)
  · exact absurd c_5 (by omega)
set_option maxHeartbeats 4000000 in
set_option maxRecDepth 100000 in
theorem d_M_daysTo2 (l : Launch) (D : va_G) (cI cZ : ClassId) (base st : Nat) (Z : Nat → Nat) (y0 y1 y2 y3 y6 y7 y8 : Nat) {n came MV th : Int} {F Gp SP RF RC : Int → Int} (u v : Int) (hu : 0 ≤ u ∧ u < 4) (hvr : (-2147483648 ≤ v ∧ v ≤ 2147483647)) (hv : ¬ (0 ≤ v ∧ v < 4)) : mu_M l yX1_daysTo wsX1_daysTo ({ frames := 1, cells := 0, slots := 0, locals := 20 } : Room) [.ref y0, .int (iI (u)), .int (iI (v))] (AP D cI cZ base st Z y0 y1 y2 y3 y6 y7 y8 n came MV th F Gp SP RF RC) (some (.int (iI (0)))) (fun H => MA D cI cZ base y0 y1 y2 y3 y6 y7 y8 (n) (came) (MV) (1) (F) (Gp) (SP) (RF) (RC) H) (mM y0 y1 y2 y3 y6 y7 y8) := by
  refine mu_of (cc := cX1_daysTo) (maxL := 4) (ret := (some .int)) (own := RX1) (by decide) rfl rfl (Nat.le_of_ble_eq_true rfl) ?_
  intro p e s m below meth c ls B hCP hl hS
  obtain ⟨hx, hb, hml, hr, hts, hown, hlocks⟩ := B
  obtain ⟨hSWs, G, ZN, hGM, hMI, hMW⟩ := id hCP
  obtain ⟨hK, hZL, ⟨hstb, xs, hXL, hAL⟩, hTW⟩ := id hSWs
  obtain ⟨f, g, z, sp, rf, rc, hAf, hAg, hAz, hAsp, hArf, hArc, hP, hDb⟩ := id hMW
  have hD := MW_mD hDb
  have hmb := mM_b hDb
  have hbl := MW_lt hMW
  have hSW0 := hSWs
  have hl : lv_has ls 4 [(0, .ref y0), (1, .int (iI (u))), (2, .int (iI (v)))] := hl
  have hin : ∀ w ∈ u_ws RX1 TX1 10, w ∈ wsX1_daysTo := by decide +kernel
  have q_thrown := hts (.fieldLink RX1 29 "ShelfMarksModel" "thrown" "I") (by decide +kernel)
  refine lv_aload_n hx hb dX1_daysTo_0 rfl (lv_at hl 0 rfl) ?_
  refine lv_iload_n hx hb dX1_daysTo_1 rfl (lv_at hl 1 rfl) ?_
  refine pu_callS (v := 1) (As := [.int (iI (u))]) (rest := [.ref y0]) TP_mv ⟨hx, hb, hml, hown, hts⟩ (c_M_isReader l u (by omega) 1 (by rw [if_pos hu])) (va_cwS 1 hts gX1_daysTo_X1_isReader rfl rfl rfl (by decide +kernel) ⟨(Nat.le_of_ble_eq_true rfl), (Nat.le_of_ble_eq_true rfl)⟩) trivial rfl rfl hl.1 (Nat.le_of_ble_eq_true rfl) dX1_daysTo_2 ⟨Nat.zero_le _, Nat.zero_le _⟩ ?_
  refine pv_if_eq (tgt := 19) hx hb dX1_daysTo_5 (by decide) (by omega) (fun c_5 => ?_) (fun c_5 => ?_)
  · exact absurd c_5 (by omega)
  · -- 5f
    refine lv_iload_n hx hb dX1_daysTo_8 rfl (lv_at hl 2 rfl) ?_
    refine pu_callS (v := 0) (As := [.int (iI (v))]) (rest := [.ref y0]) TP_mv ⟨hx, hb, hml, hown, hts⟩ (c_M_isReader l v hvr 0 (by rw [if_neg hv])) (va_cwS 1 hts gX1_daysTo_X1_isReader rfl rfl rfl (by decide +kernel) ⟨(Nat.le_of_ble_eq_true rfl), (Nat.le_of_ble_eq_true rfl)⟩) trivial rfl rfl hl.1 (Nat.le_of_ble_eq_true rfl) dX1_daysTo_9 ⟨Nat.zero_le _, Nat.zero_le _⟩ ?_
    refine pv_if_eq (tgt := 19) hx hb dX1_daysTo_12 (by decide) (by omega) (fun c_12 => ?_) (fun c_12 => ?_)
    · -- 12t
      refine pv_iconst hx hb dX1_daysTo_19 ?_
      refine va_put (D := D) (ci := 1) (v := .int (iI (1))) (ty := .int) (C := RX1) (T := TX1) (N := 10) hx hb hts hin tyX1 tyX1_ok nmX1 hown hK hP hD hS 0 rfl rfl 9 (by decide) q_thrown (fun _ h9 => h9) rfl (by decide +kernel) rfl rfl (Nat.le_of_ble_eq_true rfl) dX1_daysTo_20 (fun H locs hP hD hS => ?_)
      have hP : va_P D vwCl (W1 cI cZ y0 y1 y2 y3 y6 y7 y8 (n) (came) (MV) (1) f g z sp rf rc) H := hP
      have hD : va_D (mM y0 y1 y2 y3 y6 y7 y8) (W1 cI cZ y0 y1 y2 y3 y6 y7 y8 (n) (came) (MV) (1) f g z sp rf rc) := hD
      refine lv_aload_n hx hb dX1_daysTo_23 rfl (lv_at hl 0 rfl) ?_
      refine va_get (D := D) (ci := 1) (v := .int (iI (1))) (C := RX1) (T := TX1) (N := 10) hx hb hts hin hown hK hP 0 rfl rfl 9 (by decide) q_thrown (fun _ h9 => h9) rfl dX1_daysTo_24 ?_
      refine pv_if_gt (tgt := 50) hx hb dX1_daysTo_27 (by decide) (by omega) (fun c_27 => ?_) (fun c_27 => ?_)
      · -- 27t
        refine lv_aload_n hx hb dX1_daysTo_50 rfl (lv_at hl 0 rfl) ?_
        refine va_get (D := D) (ci := 1) (v := .int (iI (1))) (C := RX1) (T := TX1) (N := 10) hx hb hts hin hown hK hP 0 rfl rfl 9 (by decide) q_thrown (fun _ h9 => h9) rfl dX1_daysTo_51 ?_
        refine pv_if_le (tgt := 61) hx hb dX1_daysTo_54 (by decide) (by omega) (fun c_54 => ?_) (fun c_54 => ?_)
        · exact absurd c_54 (by omega)
        · -- 54f
          refine pv_iconst hx hb dX1_daysTo_57 ?_
          refine lv_goto (tgt := 62) hx hb dX1_daysTo_58 (by decide) ?_
          exact mu_iret hx hb hr hlocks hS dX1_daysTo_62 (by rfl) ⟨G, ZN, hGM, hMI, ⟨f, g, z, sp, rf, rc, hAf, hAg, hAz, hAsp, hArf, hArc, hP, hD.weaken (fun _ _ _ h => hmb _ h)⟩⟩
      · exact absurd c_27 (by omega)
    · exact absurd c_12 (by omega)
set_option maxHeartbeats 4000000 in
set_option maxRecDepth 100000 in
theorem d_M_wouldMove (l : Launch) (D : va_G) (cI cZ : ClassId) (base st : Nat) (Z : Nat → Nat) (y0 y1 y2 y3 y6 y7 y8 : Nat) {n came MV th : Int} {F Gp SP RF RC : Int → Int} (x : Int) (hxr : (-2147483648 ≤ x ∧ x ≤ 2147483647)) (hrp : PL F n x (-1)) : mu_M l yX1_wouldMove wsX1_wouldMove ({ frames := 1, cells := 0, slots := 0, locals := 21 } : Room) [.ref y0, .int (iI (x))] (AP D cI cZ base st Z y0 y1 y2 y3 y6 y7 y8 n came MV th F Gp SP RF RC) (some (.int (iI (0)))) (fun H => MA D cI cZ base y0 y1 y2 y3 y6 y7 y8 (n) (came) (MV) (1) (F) (Gp) (SP) (RF) (RC) H) (mM y0 y1 y2 y3 y6 y7 y8) := by
  refine mu_of (cc := cX1_wouldMove) (maxL := 11) (ret := (some .int)) (own := RX1) (by decide) rfl rfl (Nat.le_of_ble_eq_true rfl) ?_
  intro p e s m below meth c ls B hCP hl hS
  obtain ⟨hx, hb, hml, hr, hts, hown, hlocks⟩ := B
  obtain ⟨hSWs, G, ZN, hGM, hMI, hMW⟩ := id hCP
  obtain ⟨hK, hZL, ⟨hstb, xs, hXL, hAL⟩, hTW⟩ := id hSWs
  obtain ⟨f, g, z, sp, rf, rc, hAf, hAg, hAz, hAsp, hArf, hArc, hP, hDb⟩ := id hMW
  have hD := MW_mD hDb
  have hmb := mM_b hDb
  have hbl := MW_lt hMW
  have hSW0 := hSWs
  have hl : lv_has ls 11 [(0, .ref y0), (1, .int (iI (x)))] := hl
  have hin : ∀ w ∈ u_ws RX1 TX1 10, w ∈ wsX1_wouldMove := by decide +kernel
  have q_thrown := hts (.fieldLink RX1 29 "ShelfMarksModel" "thrown" "I") (by decide +kernel)
  refine lv_aload_n hx hb dX1_wouldMove_0 rfl (lv_at hl 0 rfl) ?_
  refine lv_aload_n hx hb dX1_wouldMove_1 rfl (lv_at hl 0 rfl) ?_
  refine lv_iload_n hx hb dX1_wouldMove_2 rfl (lv_at hl 1 rfl) ?_
  have hCP : MP D cI cZ base st Z y0 y1 y2 y3 y6 y7 y8 (n) (came) (MV) (th) (F) (G) (ZN) (SP) (RF) (RC) s s.heap := ⟨hSW0.behind hbl hmb hS, ⟨f, g, z, sp, rf, rc, hAf, hAg, hAz, hAsp, hArf, hArc, hP, hD.weaken (fun _ _ _ h => hmb _ h)⟩⟩
  refine pu_callV (v := 0) (As := [.int (iI (x))]) (rest := [.ref y0]) MP_mv ⟨hx, hb, hml, hown, hts⟩ (c_M_known l D cI cZ base st Z y0 y1 y2 y3 y6 y7 y8 hMI x hxr 0 (kn_0 hMI hrp).symm) (cwV 1 hts gX1_wouldMove_X1_known rfl rfl rfl (by decide +kernel) ⟨(Nat.le_of_ble_eq_true rfl), (Nat.le_of_ble_eq_true rfl)⟩) hCP (MP_rc hCP) rfl rfl hl.1 (Nat.le_of_ble_eq_true rfl) dX1_wouldMove_3 ⟨Nat.zero_le _, Nat.zero_le _⟩ ?_
  refine pv_if_eq (tgt := 13) hx hb dX1_wouldMove_6 (by decide) (by omega) (fun c_6 => ?_) (fun c_6 => ?_)
  · -- 6t
    refine pv_iconst hx hb dX1_wouldMove_13 ?_
    refine va_put (D := D) (ci := 1) (v := .int (iI (1))) (ty := .int) (C := RX1) (T := TX1) (N := 10) hx hb hts hin tyX1 tyX1_ok nmX1 hown hK hP hD hS 0 rfl rfl 9 (by decide) q_thrown (fun _ h9 => h9) rfl (by decide +kernel) rfl rfl (Nat.le_of_ble_eq_true rfl) dX1_wouldMove_14 (fun H locs hP hD hS => ?_)
    have hP : va_P D vwCl (W1 cI cZ y0 y1 y2 y3 y6 y7 y8 (n) (came) (MV) (1) f g z sp rf rc) H := hP
    have hD : va_D (mM y0 y1 y2 y3 y6 y7 y8) (W1 cI cZ y0 y1 y2 y3 y6 y7 y8 (n) (came) (MV) (1) f g z sp rf rc) := hD
    refine lv_aload_n hx hb dX1_wouldMove_17 rfl (lv_at hl 0 rfl) ?_
    refine va_get (D := D) (ci := 1) (v := .int (iI (1))) (C := RX1) (T := TX1) (N := 10) hx hb hts hin hown hK hP 0 rfl rfl 9 (by decide) q_thrown (fun _ h9 => h9) rfl dX1_wouldMove_18 ?_
    refine pv_if_le (tgt := 26) hx hb dX1_wouldMove_21 (by decide) (by omega) (fun c_21 => ?_) (fun c_21 => ?_)
    · exact absurd c_21 (by omega)
    · -- 21f
      refine pv_iconst hx hb dX1_wouldMove_24 ?_
      exact mu_iret hx hb hr hlocks hS dX1_wouldMove_25 (by rfl) ⟨G, ZN, hGM, hMI, ⟨f, g, z, sp, rf, rc, hAf, hAg, hAz, hAsp, hArf, hArc, hP, hD.weaken (fun _ _ _ h => hmb _ h)⟩⟩
  · exact absurd c_6 (by omega)
set_option maxHeartbeats 4000000 in
set_option maxRecDepth 100000 in
theorem c_M_would_free (l : Launch) (D : va_G) (cI cZ : ClassId) (base st : Nat) (Z : Nat → Nat) (y0 y1 y2 y3 y6 y7 y8 : Nat) {n came MV th : Int} {F Gp SP RF RC : Int → Int} (hn : 0 ≤ n ∧ n ≤ 60) (hF : ∀ k : Int, 0 ≤ k → k < n → 0 ≤ F k ∧ F k < 200) (x : Int) (hxr : (-2147483648 ≤ x ∧ x ≤ 2147483647)) (rp : Int) (hrp : PL F n x rp) (h0 : 0 ≤ rp) (hG : ∀ k : Int, 0 ≤ k → k < n → 0 ≤ Gp k ∧ Gp k ≤ 255) (hfree : 2 ≤ ma Gp n (rp + 1) - Gp rp) : mu_M l yX1_wouldMove wsX1_wouldMove ({ frames := 1, cells := 0, slots := 0, locals := 22 } : Room) [.ref y0, .int (iI (x))] (AP D cI cZ base st Z y0 y1 y2 y3 y6 y7 y8 n came MV th F Gp SP RF RC) (some (.int (iI (0)))) (fun H => MA D cI cZ base y0 y1 y2 y3 y6 y7 y8 (n) (came) (MV) (0) (F) (Gp) (SP) (RF) (RC) H) (mM y0 y1 y2 y3 y6 y7 y8) := by
  refine mu_of (cc := cX1_wouldMove) (maxL := 11) (ret := (some .int)) (own := RX1) (by decide) rfl rfl (Nat.le_of_ble_eq_true rfl) ?_
  intro p e s m below meth c ls B hCP hl hS
  obtain ⟨hx, hb, hml, hr, hts, hown, hlocks⟩ := B
  obtain ⟨hSWs, G, ZN, hGM, hMI, hMW⟩ := id hCP
  obtain ⟨hK, hZL, ⟨hstb, xs, hXL, hAL⟩, hTW⟩ := id hSWs
  obtain ⟨f, g, z, sp, rf, rc, hAf, hAg, hAz, hAsp, hArf, hArc, hP, hDb⟩ := id hMW
  have hD := MW_mD hDb
  have hmb := mM_b hDb
  have hbl := MW_lt hMW
  have hSW0 := hSWs
  have hl : lv_has ls 11 [(0, .ref y0), (1, .int (iI (x)))] := hl
  have hin : ∀ w ∈ u_ws RX1 TX1 10, w ∈ wsX1_wouldMove := by decide +kernel
  have q_marks := hts (.fieldLink RX1 13 "ShelfMarksModel" "marks" "[I") (by decide +kernel)
  have q_thrown := hts (.fieldLink RX1 29 "ShelfMarksModel" "thrown" "I") (by decide +kernel)
  obtain ⟨hx1, hx2, hx3⟩ := PL_p hrp h0
  have hgx : G x = Gp rp := by rw [← hx3]; exact hGM rp hx1 hx2
  have hxx := PL_x hF h0 hrp
  refine lv_aload_n hx hb dX1_wouldMove_0 rfl (lv_at hl 0 rfl) ?_
  refine lv_aload_n hx hb dX1_wouldMove_1 rfl (lv_at hl 0 rfl) ?_
  refine lv_iload_n hx hb dX1_wouldMove_2 rfl (lv_at hl 1 rfl) ?_
  have hCP : MP D cI cZ base st Z y0 y1 y2 y3 y6 y7 y8 (n) (came) (MV) (th) (F) (G) (ZN) (SP) (RF) (RC) s s.heap := ⟨hSW0.behind hbl hmb hS, ⟨f, g, z, sp, rf, rc, hAf, hAg, hAz, hAsp, hArf, hArc, hP, hD.weaken (fun _ _ _ h => hmb _ h)⟩⟩
  refine pu_callV (v := 1) (As := [.int (iI (x))]) (rest := [.ref y0]) MP_mv ⟨hx, hb, hml, hown, hts⟩ (c_M_known l D cI cZ base st Z y0 y1 y2 y3 y6 y7 y8 hMI x hxr 1 (kn_1 hMI hF hrp h0).symm) (cwV 1 hts gX1_wouldMove_X1_known rfl rfl rfl (by decide +kernel) ⟨(Nat.le_of_ble_eq_true rfl), (Nat.le_of_ble_eq_true rfl)⟩) hCP (MP_rc hCP) rfl rfl hl.1 (Nat.le_of_ble_eq_true rfl) dX1_wouldMove_3 ⟨Nat.zero_le _, Nat.zero_le _⟩ ?_
  refine pv_if_eq (tgt := 13) hx hb dX1_wouldMove_6 (by decide) (by omega) (fun c_6 => ?_) (fun c_6 => ?_)
  · exact absurd c_6 (by omega)
  · -- 6f
    refine pv_iconst hx hb dX1_wouldMove_9 ?_
    refine lv_goto (tgt := 14) hx hb dX1_wouldMove_10 (by decide) ?_
    refine va_put (D := D) (ci := 1) (v := .int (iI (0))) (ty := .int) (C := RX1) (T := TX1) (N := 10) hx hb hts hin tyX1 tyX1_ok nmX1 hown hK hP hD hS 0 rfl rfl 9 (by decide) q_thrown (fun _ h9 => h9) rfl (by decide +kernel) rfl rfl (Nat.le_of_ble_eq_true rfl) dX1_wouldMove_14 (fun H locs hP hD hS => ?_)
    have hP : va_P D vwCl (W1 cI cZ y0 y1 y2 y3 y6 y7 y8 (n) (came) (MV) (0) f g z sp rf rc) H := hP
    have hD : va_D (mM y0 y1 y2 y3 y6 y7 y8) (W1 cI cZ y0 y1 y2 y3 y6 y7 y8 (n) (came) (MV) (0) f g z sp rf rc) := hD
    refine lv_aload_n hx hb dX1_wouldMove_17 rfl (lv_at hl 0 rfl) ?_
    refine va_get (D := D) (ci := 1) (v := .int (iI (0))) (C := RX1) (T := TX1) (N := 10) hx hb hts hin hown hK hP 0 rfl rfl 9 (by decide) q_thrown (fun _ h9 => h9) rfl dX1_wouldMove_18 ?_
    refine pv_if_le (tgt := 26) hx hb dX1_wouldMove_21 (by decide) (by omega) (fun c_21 => ?_) (fun c_21 => ?_)
    · -- 21t
      refine lv_aload_n hx hb dX1_wouldMove_26 rfl (lv_at hl 0 rfl) ?_
      refine lv_iload_n hx hb dX1_wouldMove_27 rfl (lv_at hl 1 rfl) ?_
      have hCP : MP D cI cZ base st Z y0 y1 y2 y3 y6 y7 y8 (n) (came) (MV) (0) (F) (G) (ZN) (SP) (RF) (RC) s H := ⟨hSW0.behind hbl hmb hS, ⟨f, g, z, sp, rf, rc, hAf, hAg, hAz, hAsp, hArf, hArc, hP, hD.weaken (fun _ _ _ h => hmb _ h)⟩⟩
      refine pu_callV (v := rp) (As := [.int (iI (x))]) (rest := []) MP_mv ⟨hx, hb, hml, hown, hts⟩ (c_M_place l D cI cZ base st Z y0 y1 y2 y3 y6 y7 y8 hn hF x hxr rp hrp h0) (cwV 1 hts gX1_wouldMove_X1_place rfl rfl rfl (by decide +kernel) ⟨(Nat.le_of_ble_eq_true rfl), (Nat.le_of_ble_eq_true rfl)⟩) hCP (MP_rc hCP) rfl rfl hl.1 (Nat.le_of_ble_eq_true rfl) dX1_wouldMove_28 ⟨Nat.zero_le _, Nat.zero_le _⟩ ?_
      refine pv_iconst hx hb dX1_wouldMove_31 ?_
      refine pv_iadd hx hb dX1_wouldMove_32 ?_
      refine lv_istore_n (lv' := [(2, .int (iI ((rp) + (1)))), (0, .ref y0), (1, .int (iI (x)))]) hx hb dX1_wouldMove_33 rfl hl (by decide) rfl (fun ls hl => ?_)
      refine lv_aload_n hx hb dX1_wouldMove_34 rfl (lv_at hl 1 rfl) ?_
      refine lv_iload_n hx hb dX1_wouldMove_35 rfl (lv_at hl 0 rfl) ?_
      have hCP : MP D cI cZ base st Z y0 y1 y2 y3 y6 y7 y8 (n) (came) (MV) (0) (F) (G) (ZN) (SP) (RF) (RC) s H := ⟨hSW0.behind hbl hmb hS, ⟨f, g, z, sp, rf, rc, hAf, hAg, hAz, hAsp, hArf, hArc, hP, hD.weaken (fun _ _ _ h => hmb _ h)⟩⟩
      refine pu_callV (v := ma Gp n (rp + 1)) (As := [.int (iI ((rp) + (1)))]) (rest := []) MP_mv ⟨hx, hb, hml, hown, hts⟩ (c_M_markBehind l D cI cZ base st Z y0 y1 y2 y3 y6 y7 y8 hn hF Gp hGM (rp + 1) (by omega) _ rfl) (cwV 1 hts gX1_wouldMove_X1_markBehind rfl rfl rfl (by decide +kernel) ⟨(Nat.le_of_ble_eq_true rfl), (Nat.le_of_ble_eq_true rfl)⟩) hCP (MP_rc hCP) rfl rfl hl.1 (Nat.le_of_ble_eq_true rfl) dX1_wouldMove_36 ⟨Nat.zero_le _, Nat.zero_le _⟩ ?_
      refine lv_aload_n hx hb dX1_wouldMove_39 rfl (lv_at hl 1 rfl) ?_
      refine va_get (D := D) (ci := 1) (v := .ref y2) (C := RX1) (T := TX1) (N := 10) hx hb hts hin hown hK hP 0 rfl rfl 2 (by decide) q_marks (fun _ h9 => h9) rfl dX1_wouldMove_40 ?_
      refine lv_iload_n hx hb dX1_wouldMove_43 rfl (lv_at hl 2 rfl) ?_
      refine pv_iald (i := x) (v := Gp rp) hx hb hK hP 2 0 rfl rfl (by omega) (by decide) ((hAg _ (by omega) (by omega)).trans (congrArg iI hgx)) dX1_wouldMove_44 ?_
      have hgp := hG rp hx1 hx2
      have hm1 := ma_rg hG (rp + 1)
      refine pv_isub hx hb dX1_wouldMove_45 ?_
      refine pv_iconst hx hb dX1_wouldMove_46 ?_
      refine pv_icmp_lt (tgt := 52) hx hb dX1_wouldMove_47 (by decide) (by omega) (fun c_47 => ?_) (fun c_47 => ?_)
      · exfalso; omega
      · -- 47f
        refine pv_iconst hx hb dX1_wouldMove_50 ?_
        exact mu_iret hx hb hr hlocks hS dX1_wouldMove_51 (by rfl) ⟨G, ZN, hGM, hMI, ⟨f, g, z, sp, rf, rc, hAf, hAg, hAz, hAsp, hArf, hArc, hP, hD.weaken (fun _ _ _ h => hmb _ h)⟩⟩
    · exact absurd c_21 (by omega)
set_option maxHeartbeats 4000000 in
set_option maxRecDepth 100000 in
theorem c_M_would_full (l : Launch) (D : va_G) (cI cZ : ClassId) (base st : Nat) (Z : Nat → Nat) (y0 y1 y2 y3 y6 y7 y8 : Nat) {n came MV th : Int} {F Gp SP RF RC : Int → Int} (hn : 0 ≤ n ∧ n ≤ 60) (hF : ∀ k : Int, 0 ≤ k → k < n → 0 ≤ F k ∧ F k < 200) (x : Int) (hxr : (-2147483648 ≤ x ∧ x ≤ 2147483647)) (rp : Int) (hrp : PL F n x rp) (h0 : 0 ≤ rp) (hG : ∀ k : Int, 0 ≤ k → k < n → 0 ≤ Gp k ∧ Gp k ≤ 255) (hs : SD Gp n) (hfull : ma Gp n (rp + 1) - Gp rp < 2) (lv : Int) (hlv : LV Gp n (Gp rp) lv) (r : Int) (hr9 : r = mvn Gp (rp + 1) ((Gp rp / 2 ^ lv.toNat) * 2 ^ lv.toNat) (2 ^ lv.toNat) (mb Gp n ((Gp rp / 2 ^ lv.toNat) * 2 ^ lv.toNat)) (ldn Gp n lv (Gp rp / 2 ^ lv.toNat) + 1) (ldn Gp n lv (Gp rp / 2 ^ lv.toNat)).toNat) : mu_M l yX1_wouldMove wsX1_wouldMove ({ frames := 3, cells := 0, slots := 0, locals := 68 } : Room) [.ref y0, .int (iI (x))] (AP D cI cZ base st Z y0 y1 y2 y3 y6 y7 y8 n came MV th F Gp SP RF RC) (some (.int (iI (r)))) (fun H => MA D cI cZ base y0 y1 y2 y3 y6 y7 y8 (n) (came) (MV) (0) (F) (Gp) (SP) (RF) (RC) H) (mM y0 y1 y2 y3 y6 y7 y8) := by
  refine mu_of (cc := cX1_wouldMove) (maxL := 11) (ret := (some .int)) (own := RX1) (by decide) rfl rfl (Nat.le_of_ble_eq_true rfl) ?_
  intro p e s m below meth c ls B hCP hl hS
  obtain ⟨hx, hb, hml, hr, hts, hown, hlocks⟩ := B
  obtain ⟨hSWs, G, ZN, hGM, hMI, hMW⟩ := id hCP
  obtain ⟨hK, hZL, ⟨hstb, xs, hXL, hAL⟩, hTW⟩ := id hSWs
  obtain ⟨f, g, z, sp, rf, rc, hAf, hAg, hAz, hAsp, hArf, hArc, hP, hDb⟩ := id hMW
  have hD := MW_mD hDb
  have hmb := mM_b hDb
  have hbl := MW_lt hMW
  have hSW0 := hSWs
  have hl : lv_has ls 11 [(0, .ref y0), (1, .int (iI (x)))] := hl
  have hin : ∀ w ∈ u_ws RX1 TX1 10, w ∈ wsX1_wouldMove := by decide +kernel
  have q_order := hts (.fieldLink RX1 7 "ShelfMarksModel" "order" "[I") (by decide +kernel)
  have q_marks := hts (.fieldLink RX1 13 "ShelfMarksModel" "marks" "[I") (by decide +kernel)
  have q_thrown := hts (.fieldLink RX1 29 "ShelfMarksModel" "thrown" "I") (by decide +kernel)
  have q_size := hts (.fieldLink RX1 36 "ShelfMarksModel" "size" "I") (by decide +kernel)
  obtain ⟨hx1, hx2, hx3⟩ := PL_p hrp h0
  have hgx : G x = Gp rp := by rw [← hx3]; exact hGM rp hx1 hx2
  have hxx := PL_x hF h0 hrp
  refine lv_aload_n hx hb dX1_wouldMove_0 rfl (lv_at hl 0 rfl) ?_
  refine lv_aload_n hx hb dX1_wouldMove_1 rfl (lv_at hl 0 rfl) ?_
  refine lv_iload_n hx hb dX1_wouldMove_2 rfl (lv_at hl 1 rfl) ?_
  have hCP : MP D cI cZ base st Z y0 y1 y2 y3 y6 y7 y8 (n) (came) (MV) (th) (F) (G) (ZN) (SP) (RF) (RC) s s.heap := ⟨hSW0.behind hbl hmb hS, ⟨f, g, z, sp, rf, rc, hAf, hAg, hAz, hAsp, hArf, hArc, hP, hD.weaken (fun _ _ _ h => hmb _ h)⟩⟩
  refine pu_callV (v := 1) (As := [.int (iI (x))]) (rest := [.ref y0]) MP_mv ⟨hx, hb, hml, hown, hts⟩ (c_M_known l D cI cZ base st Z y0 y1 y2 y3 y6 y7 y8 hMI x hxr 1 (kn_1 hMI hF hrp h0).symm) (cwV 1 hts gX1_wouldMove_X1_known rfl rfl rfl (by decide +kernel) ⟨(Nat.le_of_ble_eq_true rfl), (Nat.le_of_ble_eq_true rfl)⟩) hCP (MP_rc hCP) rfl rfl hl.1 (Nat.le_of_ble_eq_true rfl) dX1_wouldMove_3 ⟨Nat.zero_le _, Nat.zero_le _⟩ ?_
  refine pv_if_eq (tgt := 13) hx hb dX1_wouldMove_6 (by decide) (by omega) (fun c_6 => ?_) (fun c_6 => ?_)
  · exact absurd c_6 (by omega)
  · -- 6f
    refine pv_iconst hx hb dX1_wouldMove_9 ?_
    refine lv_goto (tgt := 14) hx hb dX1_wouldMove_10 (by decide) ?_
    refine va_put (D := D) (ci := 1) (v := .int (iI (0))) (ty := .int) (C := RX1) (T := TX1) (N := 10) hx hb hts hin tyX1 tyX1_ok nmX1 hown hK hP hD hS 0 rfl rfl 9 (by decide) q_thrown (fun _ h9 => h9) rfl (by decide +kernel) rfl rfl (Nat.le_of_ble_eq_true rfl) dX1_wouldMove_14 (fun H locs hP hD hS => ?_)
    have hP : va_P D vwCl (W1 cI cZ y0 y1 y2 y3 y6 y7 y8 (n) (came) (MV) (0) f g z sp rf rc) H := hP
    have hD : va_D (mM y0 y1 y2 y3 y6 y7 y8) (W1 cI cZ y0 y1 y2 y3 y6 y7 y8 (n) (came) (MV) (0) f g z sp rf rc) := hD
    refine lv_aload_n hx hb dX1_wouldMove_17 rfl (lv_at hl 0 rfl) ?_
    refine va_get (D := D) (ci := 1) (v := .int (iI (0))) (C := RX1) (T := TX1) (N := 10) hx hb hts hin hown hK hP 0 rfl rfl 9 (by decide) q_thrown (fun _ h9 => h9) rfl dX1_wouldMove_18 ?_
    refine pv_if_le (tgt := 26) hx hb dX1_wouldMove_21 (by decide) (by omega) (fun c_21 => ?_) (fun c_21 => ?_)
    · -- 21t
      refine lv_aload_n hx hb dX1_wouldMove_26 rfl (lv_at hl 0 rfl) ?_
      refine lv_iload_n hx hb dX1_wouldMove_27 rfl (lv_at hl 1 rfl) ?_
      have hCP : MP D cI cZ base st Z y0 y1 y2 y3 y6 y7 y8 (n) (came) (MV) (0) (F) (G) (ZN) (SP) (RF) (RC) s H := ⟨hSW0.behind hbl hmb hS, ⟨f, g, z, sp, rf, rc, hAf, hAg, hAz, hAsp, hArf, hArc, hP, hD.weaken (fun _ _ _ h => hmb _ h)⟩⟩
      refine pu_callV (v := rp) (As := [.int (iI (x))]) (rest := []) MP_mv ⟨hx, hb, hml, hown, hts⟩ (c_M_place l D cI cZ base st Z y0 y1 y2 y3 y6 y7 y8 hn hF x hxr rp hrp h0) (cwV 1 hts gX1_wouldMove_X1_place rfl rfl rfl (by decide +kernel) ⟨(Nat.le_of_ble_eq_true rfl), (Nat.le_of_ble_eq_true rfl)⟩) hCP (MP_rc hCP) rfl rfl hl.1 (Nat.le_of_ble_eq_true rfl) dX1_wouldMove_28 ⟨Nat.zero_le _, Nat.zero_le _⟩ ?_
      refine pv_iconst hx hb dX1_wouldMove_31 ?_
      refine pv_iadd hx hb dX1_wouldMove_32 ?_
      rw [show iI ((rp) + (1)) = iI (rp + 1) from congrArg iI (rfl)]
      refine lv_istore_n (lv' := [(2, .int (iI (rp + 1))), (0, .ref y0), (1, .int (iI (x)))]) hx hb dX1_wouldMove_33 rfl hl (by decide) rfl (fun ls hl => ?_)
      refine lv_aload_n hx hb dX1_wouldMove_34 rfl (lv_at hl 1 rfl) ?_
      refine lv_iload_n hx hb dX1_wouldMove_35 rfl (lv_at hl 0 rfl) ?_
      have hCP : MP D cI cZ base st Z y0 y1 y2 y3 y6 y7 y8 (n) (came) (MV) (0) (F) (G) (ZN) (SP) (RF) (RC) s H := ⟨hSW0.behind hbl hmb hS, ⟨f, g, z, sp, rf, rc, hAf, hAg, hAz, hAsp, hArf, hArc, hP, hD.weaken (fun _ _ _ h => hmb _ h)⟩⟩
      refine pu_callV (v := ma Gp n (rp + 1)) (As := [.int (iI (rp + 1))]) (rest := []) MP_mv ⟨hx, hb, hml, hown, hts⟩ (c_M_markBehind l D cI cZ base st Z y0 y1 y2 y3 y6 y7 y8 hn hF Gp hGM (rp + 1) (by omega) _ rfl) (cwV 1 hts gX1_wouldMove_X1_markBehind rfl rfl rfl (by decide +kernel) ⟨(Nat.le_of_ble_eq_true rfl), (Nat.le_of_ble_eq_true rfl)⟩) hCP (MP_rc hCP) rfl rfl hl.1 (Nat.le_of_ble_eq_true rfl) dX1_wouldMove_36 ⟨Nat.zero_le _, Nat.zero_le _⟩ ?_
      refine lv_aload_n hx hb dX1_wouldMove_39 rfl (lv_at hl 1 rfl) ?_
      refine va_get (D := D) (ci := 1) (v := .ref y2) (C := RX1) (T := TX1) (N := 10) hx hb hts hin hown hK hP 0 rfl rfl 2 (by decide) q_marks (fun _ h9 => h9) rfl dX1_wouldMove_40 ?_
      refine lv_iload_n hx hb dX1_wouldMove_43 rfl (lv_at hl 2 rfl) ?_
      refine pv_iald (i := x) (v := Gp rp) hx hb hK hP 2 0 rfl rfl (by omega) (by decide) ((hAg _ (by omega) (by omega)).trans (congrArg iI hgx)) dX1_wouldMove_44 ?_
      have hgp := hG rp hx1 hx2
      have hm1 := ma_rg hG (rp + 1)
      refine pv_isub hx hb dX1_wouldMove_45 ?_
      refine pv_iconst hx hb dX1_wouldMove_46 ?_
      refine pv_icmp_lt (tgt := 52) hx hb dX1_wouldMove_47 (by decide) (by omega) (fun c_47 => ?_) (fun c_47 => ?_)
      · -- 47t
        refine lv_aload_n hx hb dX1_wouldMove_52 rfl (lv_at hl 1 rfl) ?_
        refine lv_aload_n hx hb dX1_wouldMove_53 rfl (lv_at hl 1 rfl) ?_
        refine va_get (D := D) (ci := 1) (v := .ref y2) (C := RX1) (T := TX1) (N := 10) hx hb hts hin hown hK hP 0 rfl rfl 2 (by decide) q_marks (fun _ h9 => h9) rfl dX1_wouldMove_54 ?_
        refine lv_iload_n hx hb dX1_wouldMove_57 rfl (lv_at hl 2 rfl) ?_
        refine pv_iald (i := x) (v := Gp rp) hx hb hK hP 2 0 rfl rfl (by omega) (by decide) ((hAg _ (by omega) (by omega)).trans (congrArg iI hgx)) dX1_wouldMove_58 ?_
        have hlv1 := hlv.1
        have hsb := sh_b (lv := lv) hgp (by omega)
        have hp2 := p2_rg (lv := lv) (by omega)
        have hCP : MP D cI cZ base st Z y0 y1 y2 y3 y6 y7 y8 (n) (came) (MV) (0) (F) (G) (ZN) (SP) (RF) (RC) s H := ⟨hSW0.behind hbl hmb hS, ⟨f, g, z, sp, rf, rc, hAf, hAg, hAz, hAsp, hArf, hArc, hP, hD.weaken (fun _ _ _ h => hmb _ h)⟩⟩
        refine pu_callV (v := lv) (As := [.int (iI (Gp rp))]) (rest := []) MP_mv ⟨hx, hb, hml, hown, hts⟩ (c_M_levelFor l D cI cZ base st Z y0 y1 y2 y3 y6 y7 y8 hn hF Gp hGM hG hs (Gp rp) hgp lv hlv) (cwV 1 hts gX1_wouldMove_X1_levelFor rfl rfl rfl (by decide +kernel) ⟨(Nat.le_of_ble_eq_true rfl), (Nat.le_of_ble_eq_true rfl)⟩) hCP (MP_rc hCP) rfl rfl hl.1 (Nat.le_of_ble_eq_true rfl) dX1_wouldMove_59 ⟨Nat.zero_le _, Nat.zero_le _⟩ ?_
        refine lv_istore_n (lv' := [(3, .int (iI (lv))), (2, .int (iI (rp + 1))), (0, .ref y0), (1, .int (iI (x)))]) hx hb dX1_wouldMove_62 rfl hl (by decide) rfl (fun ls hl => ?_)
        refine pv_iconst hx hb dX1_wouldMove_63 ?_
        refine lv_iload_n hx hb dX1_wouldMove_64 rfl (lv_at hl 0 rfl) ?_
        refine pv_ishl hx hb dX1_wouldMove_65 (by omega) (by omega) (by omega) ?_
        rw [show iI ((1) * 2 ^ (lv : Int).toNat) = iI (2 ^ lv.toNat) from congrArg iI ((Int.one_mul _))]
        refine lv_istore (lv' := [(4, .int (iI (2 ^ lv.toNat))), (3, .int (iI (lv))), (2, .int (iI (rp + 1))), (0, .ref y0), (1, .int (iI (x)))]) hx hb dX1_wouldMove_66 hl (by decide) rfl (fun ls hl => ?_)
        refine lv_aload_n hx hb dX1_wouldMove_68 rfl (lv_at hl 3 rfl) ?_
        refine va_get (D := D) (ci := 1) (v := .ref y2) (C := RX1) (T := TX1) (N := 10) hx hb hts hin hown hK hP 0 rfl rfl 2 (by decide) q_marks (fun _ h9 => h9) rfl dX1_wouldMove_69 ?_
        refine lv_iload_n hx hb dX1_wouldMove_72 rfl (lv_at hl 4 rfl) ?_
        refine pv_iald (i := x) (v := Gp rp) hx hb hK hP 2 0 rfl rfl (by omega) (by decide) ((hAg _ (by omega) (by omega)).trans (congrArg iI hgx)) dX1_wouldMove_73 ?_
        refine lv_iload_n hx hb dX1_wouldMove_74 rfl (lv_at hl 1 rfl) ?_
        refine pv_ishr hx hb dX1_wouldMove_75 (by omega) (by omega) ?_
        refine lv_iload_n hx hb dX1_wouldMove_76 rfl (lv_at hl 1 rfl) ?_
        refine pv_ishl hx hb dX1_wouldMove_77 hsb.1 (by omega) (by omega) ?_
        obtain ⟨sh, hsh9⟩ : ∃ z, z = Gp rp / 2 ^ lv.toNat := ⟨_, rfl⟩
        rw [← hsh9] at hsb hr9
        have e9 : sh * 2 ^ lv.toNat + 2 ^ lv.toNat = (sh + 1) * 2 ^ lv.toNat := by rw [Int.add_mul, Int.one_mul]
        rw [show iI (((Gp rp) / 2 ^ (lv : Int).toNat) * 2 ^ (lv : Int).toNat) = iI (sh * 2 ^ lv.toNat) from congrArg iI ((by rw [hsh9]))]
        refine lv_istore (lv' := [(5, .int (iI (sh * 2 ^ lv.toNat))), (4, .int (iI (2 ^ lv.toNat))), (3, .int (iI (lv))), (2, .int (iI (rp + 1))), (0, .ref y0), (1, .int (iI (x)))]) hx hb dX1_wouldMove_78 hl (by decide) rfl (fun ls hl => ?_)
        refine lv_aload_n hx hb dX1_wouldMove_80 rfl (lv_at hl 4 rfl) ?_
        refine lv_iload hx hb dX1_wouldMove_81 (lv_at hl 0 rfl) ?_
        refine lv_iload hx hb dX1_wouldMove_83 (lv_at hl 0 rfl) ?_
        refine lv_iload hx hb dX1_wouldMove_85 (lv_at hl 1 rfl) ?_
        refine pv_iadd hx hb dX1_wouldMove_87 ?_
        have hCP : MP D cI cZ base st Z y0 y1 y2 y3 y6 y7 y8 (n) (came) (MV) (0) (F) (G) (ZN) (SP) (RF) (RC) s H := ⟨hSW0.behind hbl hmb hS, ⟨f, g, z, sp, rf, rc, hAf, hAg, hAz, hAsp, hArf, hArc, hP, hD.weaken (fun _ _ _ h => hmb _ h)⟩⟩
        refine pu_callV (v := ldn Gp n lv sh) (As := [.int (iI (sh * 2 ^ lv.toNat)), .int (iI ((sh * 2 ^ lv.toNat) + (2 ^ lv.toNat)))]) (rest := []) MP_mv ⟨hx, hb, hml, hown, hts⟩ (c_M_between l D cI cZ base st Z y0 y1 y2 y3 y6 y7 y8 hn hF Gp hGM hG _ _ (by omega) (by omega) _ (by rw [e9]; unfold ldn; exact (bt_mb Gp n _ _ (by omega)).symm)) (cwV 2 hts gX1_wouldMove_X1_between rfl rfl rfl (by decide +kernel) ⟨(Nat.le_of_ble_eq_true rfl), (Nat.le_of_ble_eq_true rfl)⟩) hCP (MP_rc hCP) rfl rfl hl.1 (Nat.le_of_ble_eq_true rfl) dX1_wouldMove_88 ⟨Nat.zero_le _, Nat.zero_le _⟩ ?_
        refine pv_iconst hx hb dX1_wouldMove_91 ?_
        refine pv_iadd hx hb dX1_wouldMove_92 ?_
        have hldr := ldn_rg (G := Gp) (lv := lv) (sh := sh) hn hs (by omega)
        have hend := ldn_end (G := Gp) (lv := lv) (sh := sh) hn
        have hbgr := mb_rg (G := Gp) (m := sh * 2 ^ lv.toNat) hn.1
        have hir := (in_sh (G := Gp) (lo := sh * 2 ^ lv.toNat) (hi := (sh + 1) * 2 ^ lv.toNat) hn.1 hs ⟨hx1, hx2⟩ (by omega)).mp ⟨by omega, by omega⟩
        have hal : ∀ k : Int, 0 ≤ k → k < n → ((sh * 2 ^ lv.toNat ≤ Gp k ∧ Gp k < (sh + 1) * 2 ^ lv.toNat) ↔ (mb Gp n (sh * 2 ^ lv.toNat) ≤ k ∧ k < mb Gp n (sh * 2 ^ lv.toNat) + ldn Gp n lv sh)) := fun k h0 h1 => by rw [in_sh hn.1 hs ⟨h0, h1⟩ (by omega)]; unfold ldn; omega
        have hir2 := (hal rp hx1 hx2).mp ⟨by omega, by omega⟩
        obtain ⟨ct, hct⟩ : ∃ z, z = ldn Gp n lv sh := ⟨_, rfl⟩
        rw [← hct] at hldr hend hal hir2 hr9
        obtain ⟨bg, hbg⟩ : ∃ z, z = mb Gp n (sh * 2 ^ lv.toNat) := ⟨_, rfl⟩
        rw [← hbg] at hend hbgr hal hir2 hr9
        rw [show iI ((ldn Gp n lv sh) + (1)) = iI (ct + 1) from congrArg iI ((by rw [hct]))]
        refine lv_istore (lv' := [(6, .int (iI (ct + 1))), (5, .int (iI (sh * 2 ^ lv.toNat))), (4, .int (iI (2 ^ lv.toNat))), (3, .int (iI (lv))), (2, .int (iI (rp + 1))), (0, .ref y0), (1, .int (iI (x)))]) hx hb dX1_wouldMove_93 hl (by decide) rfl (fun ls hl => ?_)
        refine pv_iconst hx hb dX1_wouldMove_95 ?_
        refine lv_istore (lv' := [(7, .int (iI (0))), (6, .int (iI (ct + 1))), (5, .int (iI (sh * 2 ^ lv.toNat))), (4, .int (iI (2 ^ lv.toNat))), (3, .int (iI (lv))), (2, .int (iI (rp + 1))), (0, .ref y0), (1, .int (iI (x)))]) hx hb dX1_wouldMove_96 hl (by decide) rfl (fun ls hl => ?_)
        refine pv_iconst hx hb dX1_wouldMove_98 ?_
        refine lv_istore (lv' := [(8, .int (iI (0))), (7, .int (iI (0))), (6, .int (iI (ct + 1))), (5, .int (iI (sh * 2 ^ lv.toNat))), (4, .int (iI (2 ^ lv.toNat))), (3, .int (iI (lv))), (2, .int (iI (rp + 1))), (0, .ref y0), (1, .int (iI (x)))]) hx hb dX1_wouldMove_99 hl (by decide) rfl (fun ls hl => ?_)
        refine pv_iconst hx hb dX1_wouldMove_101 ?_
        refine lv_istore (lv' := [(9, .int (iI (0))), (8, .int (iI (0))), (7, .int (iI (0))), (6, .int (iI (ct + 1))), (5, .int (iI (sh * 2 ^ lv.toNat))), (4, .int (iI (2 ^ lv.toNat))), (3, .int (iI (lv))), (2, .int (iI (rp + 1))), (0, .ref y0), (1, .int (iI (x)))]) hx hb dX1_wouldMove_102 hl (by decide) rfl (fun ls hl => ?_)
        have hloop104 : ∀ (fuel : Nat) (i9 : Int) (wd : Int) (k : Int) (H : Heap) (locs : List Loc) (ls : Array Slot), (n - k) < fuel → (0 ≤ k ∧ k ≤ n) → (i9 = if k ≤ bg then 0 else if k ≤ rp then k - bg else if k ≤ bg + ct then k - bg + 1 else ct + 1) → (wd = mvn Gp (rp + 1) (sh * 2 ^ lv.toNat) (2 ^ lv.toNat) bg (ct + 1) ((if k ≤ bg then 0 else if k ≤ bg + ct then k - bg else ct) : Int).toNat) → MW D cI cZ base y0 y1 y2 y3 y6 y7 y8 (n) (came) (MV) (0) (F) (G) (ZN) (SP) (RF) (RC) H → va_S (mM y0 y1 y2 y3 y6 y7 y8) s.heap H locs → lv_has ls 11 [(0, .ref y0), (1, .int (iI (x))), (2, .int (iI (rp + 1))), (3, .int (iI (lv))), (4, .int (iI (2 ^ lv.toNat))), (5, .int (iI (sh * 2 ^ lv.toNat))), (6, .int (iI (ct + 1))), (7, .int (iI (i9))), (8, .int (iI (wd))), (9, .int (iI (k)))] → W p l e ({ frames := 3, cells := 0, slots := 0, locals := 68 } : Room) s m ([.ref y0, .int (iI (x))] : List Value).toArray below meth c H locs 0 0 (MQ below (mu_Q (some (.int (iI (r)))) (fun H => MA D cI cZ base y0 y1 y2 y3 y6 y7 y8 (n) (came) (MV) (0) (F) (Gp) (SP) (RF) (RC) H) (mM y0 y1 y2 y3 y6 y7 y8)) ([.ref y0, .int (iI (x))] : List Value).toArray s 0 0 (mM y0 y1 y2 y3 y6 y7 y8)) (F0 m 104 ls []) := by
          intro fuel
          induction fuel with
          | zero => intro i9 wd k H locs ls hfu hk hi9 hwd hC9 hS hl; exfalso; omega
          | succ fuel ih =>
            intro i9 wd k H locs ls hfu hk hi9 hwd hC9 hS hl
            obtain ⟨f, g, z, sp, rf, rc, hAf, hAg, hAz, hAsp, hArf, hArc, hP, hDb⟩ := hC9
            have hD := MW_mD hDb
            refine lv_iload hx hb dX1_wouldMove_104 (lv_at hl 9 rfl) ?_
            refine lv_aload_n hx hb dX1_wouldMove_106 rfl (lv_at hl 0 rfl) ?_
            refine va_get (D := D) (ci := 1) (v := .int (iI (n))) (C := RX1) (T := TX1) (N := 10) hx hb hts hin hown hK hP 0 rfl rfl 1 (by decide) q_size (fun _ h9 => h9) rfl dX1_wouldMove_107 ?_
            refine pv_icmp_ge (tgt := 197) hx hb dX1_wouldMove_110 (by decide) (by omega) (fun c_110 => ?_) (fun c_110 => ?_)
            · -- 110t
              refine lv_iload hx hb dX1_wouldMove_197 (lv_at hl 8 rfl) ?_
              exact mu_iret hx hb hr hlocks hS dX1_wouldMove_199 (by rw [hr9, hwd, show (if k ≤ bg then 0 else if k ≤ bg + ct then k - bg else ct) = ct by (repeat' split) <;> omega]) ⟨G, ZN, hGM, hMI, ⟨f, g, z, sp, rf, rc, hAf, hAg, hAz, hAsp, hArf, hArc, hP, hD.weaken (fun _ _ _ h => hmb _ h)⟩⟩
            · -- 110f
              refine lv_aload_n hx hb dX1_wouldMove_113 rfl (lv_at hl 0 rfl) ?_
              refine va_get (D := D) (ci := 1) (v := .ref y2) (C := RX1) (T := TX1) (N := 10) hx hb hts hin hown hK hP 0 rfl rfl 2 (by decide) q_marks (fun _ h9 => h9) rfl dX1_wouldMove_114 ?_
              refine lv_aload_n hx hb dX1_wouldMove_117 rfl (lv_at hl 0 rfl) ?_
              refine va_get (D := D) (ci := 1) (v := .ref y1) (C := RX1) (T := TX1) (N := 10) hx hb hts hin hown hK hP 0 rfl rfl 0 (by decide) q_order (fun _ h9 => h9) rfl dX1_wouldMove_118 ?_
              refine lv_iload hx hb dX1_wouldMove_121 (lv_at hl 9 rfl) ?_
              refine pv_iald (i := k) (v := F (k)) hx hb hK hP 1 0 rfl rfl (by omega) (by decide) (hAf _ (by omega) (by omega)) dX1_wouldMove_123 ?_
              have hfk := hF k (by omega) (by omega)
              refine pv_iald (i := F (k)) (v := Gp (k)) hx hb hK hP 2 0 rfl rfl (by omega) (by decide) ((hAg _ (by omega) (by omega)).trans (congrArg iI (hGM _ (by omega) (by omega)))) dX1_wouldMove_124 ?_
              have hgk := hG k (by omega) (by omega)
              refine lv_istore (lv' := [(10, .int (iI (Gp (k)))), (0, .ref y0), (1, .int (iI (x))), (2, .int (iI (rp + 1))), (3, .int (iI (lv))), (4, .int (iI (2 ^ lv.toNat))), (5, .int (iI (sh * 2 ^ lv.toNat))), (6, .int (iI (ct + 1))), (7, .int (iI (i9))), (8, .int (iI (wd))), (9, .int (iI (k)))]) hx hb dX1_wouldMove_125 hl (by decide) rfl (fun ls hl => ?_)
              have hish := hal k (by omega) (by omega)
              refine lv_iload hx hb dX1_wouldMove_127 (lv_at hl 0 rfl) ?_
              refine lv_iload hx hb dX1_wouldMove_129 (lv_at hl 6 rfl) ?_
              refine pv_icmp_lt (tgt := 191) hx hb dX1_wouldMove_131 (by decide) (by omega) (fun c_131 => ?_) (fun c_131 => ?_)
              · -- 131t
                refine pv_iinc (lv' := [(9, .int (iI (k + 1))), (10, .int (iI (Gp (k)))), (0, .ref y0), (1, .int (iI (x))), (2, .int (iI (rp + 1))), (3, .int (iI (lv))), (4, .int (iI (2 ^ lv.toNat))), (5, .int (iI (sh * 2 ^ lv.toNat))), (6, .int (iI (ct + 1))), (7, .int (iI (i9))), (8, .int (iI (wd)))]) hx hb dX1_wouldMove_191 hl (k := 10) rfl (by decide) rfl (fun ls hl => ?_)
                refine lv_goto (tgt := 104) hx hb dX1_wouldMove_194 (by decide) ?_
                exact ih (i9) (wd) (k + 1) _ _ ls (by omega) (by omega) (by have z7 : ¬ (bg ≤ k ∧ k < bg + ct) := (fun z => by (have z8 := hish.mpr z); omega); rw [hi9]; (repeat' split) <;> omega) (by have z7 : ¬ (bg ≤ k ∧ k < bg + ct) := (fun z => by (have z8 := hish.mpr z); omega); rw [hwd, show (if k ≤ bg then 0 else if k ≤ bg + ct then k - bg else ct) = (if k + 1 ≤ bg then 0 else if k + 1 ≤ bg + ct then k + 1 - bg else ct) by (repeat' split) <;> omega]) ⟨f, g, z, sp, rf, rc, hAf, hAg, hAz, hAsp, hArf, hArc, hP, hD.weaken (fun _ _ _ h => hmb _ h)⟩ hS (lv_sub hl [2, 3, 4, 5, 6, 7, 8, 9, 10, 0] rfl)
              · -- 131f
                refine lv_iload hx hb dX1_wouldMove_134 (lv_at hl 0 rfl) ?_
                refine lv_iload hx hb dX1_wouldMove_136 (lv_at hl 6 rfl) ?_
                refine lv_iload hx hb dX1_wouldMove_138 (lv_at hl 5 rfl) ?_
                refine pv_iadd hx hb dX1_wouldMove_140 ?_
                refine pv_icmp_ge (tgt := 191) hx hb dX1_wouldMove_141 (by decide) (by omega) (fun c_141 => ?_) (fun c_141 => ?_)
                · -- 141t
                  refine pv_iinc (lv' := [(9, .int (iI (k + 1))), (10, .int (iI (Gp (k)))), (0, .ref y0), (1, .int (iI (x))), (2, .int (iI (rp + 1))), (3, .int (iI (lv))), (4, .int (iI (2 ^ lv.toNat))), (5, .int (iI (sh * 2 ^ lv.toNat))), (6, .int (iI (ct + 1))), (7, .int (iI (i9))), (8, .int (iI (wd)))]) hx hb dX1_wouldMove_191 hl (k := 10) rfl (by decide) rfl (fun ls hl => ?_)
                  refine lv_goto (tgt := 104) hx hb dX1_wouldMove_194 (by decide) ?_
                  exact ih (i9) (wd) (k + 1) _ _ ls (by omega) (by omega) (by have z7 : ¬ (bg ≤ k ∧ k < bg + ct) := (fun z => by (have z8 := hish.mpr z); omega); rw [hi9]; (repeat' split) <;> omega) (by have z7 : ¬ (bg ≤ k ∧ k < bg + ct) := (fun z => by (have z8 := hish.mpr z); omega); rw [hwd, show (if k ≤ bg then 0 else if k ≤ bg + ct then k - bg else ct) = (if k + 1 ≤ bg then 0 else if k + 1 ≤ bg + ct then k + 1 - bg else ct) by (repeat' split) <;> omega]) ⟨f, g, z, sp, rf, rc, hAf, hAg, hAz, hAsp, hArf, hArc, hP, hD.weaken (fun _ _ _ h => hmb _ h)⟩ hS (lv_sub hl [2, 3, 4, 5, 6, 7, 8, 9, 10, 0] rfl)
                · -- 141f
                  have hz := hish.mp ⟨by omega, by omega⟩
                  have hnp : i9 = np (rp + 1) bg (k - bg) := by unfold np; rw [hi9]; (repeat' split) <;> omega
                  have hi9r : 0 ≤ i9 ∧ i9 ≤ 100 := by rw [hnp]; unfold np; split <;> omega
                  have hmul := mul_b (i := i9) (w := 2 ^ lv.toNat) hi9r (by omega)
                  refine lv_iload hx hb dX1_wouldMove_144 (lv_at hl 9 rfl) ?_
                  refine lv_iload hx hb dX1_wouldMove_146 (lv_at hl 0 rfl) ?_
                  refine lv_iload hx hb dX1_wouldMove_148 (lv_at hl 6 rfl) ?_
                  refine lv_iload hx hb dX1_wouldMove_150 (lv_at hl 8 rfl) ?_
                  refine lv_iload hx hb dX1_wouldMove_152 (lv_at hl 5 rfl) ?_
                  refine pv_imul hx hb dX1_wouldMove_154 ?_
                  refine lv_iload hx hb dX1_wouldMove_155 (lv_at hl 7 rfl) ?_
                  refine pv_idiv hx hb dX1_wouldMove_157 (by omega) (by omega) ?_
                  refine pv_iadd hx hb dX1_wouldMove_158 ?_
                  rw [show iI ((sh * 2 ^ lv.toNat) + (((i9) * (2 ^ lv.toNat)) / (ct + 1))) = iI (nm (sh * 2 ^ lv.toNat) (2 ^ lv.toNat) (ct + 1) i9) from congrArg iI (rfl)]
                  have hnmr := nm_rg (lo := sh * 2 ^ lv.toNat) (w := 2 ^ lv.toNat) (t := ct + 1) (i := i9) (by omega) (by omega) hi9r (by omega)
                  refine pv_icmp_ne (tgt := 166) hx hb dX1_wouldMove_159 (by decide) (by omega) (fun c_159 => ?_) (fun c_159 => ?_)
                  · -- 159t
                    refine pv_iconst hx hb dX1_wouldMove_166 ?_
                    refine pv_iadd hx hb dX1_wouldMove_167 ?_
                    refine lv_istore (lv' := [(8, .int (iI ((wd) + (1)))), (10, .int (iI (Gp (k)))), (0, .ref y0), (1, .int (iI (x))), (2, .int (iI (rp + 1))), (3, .int (iI (lv))), (4, .int (iI (2 ^ lv.toNat))), (5, .int (iI (sh * 2 ^ lv.toNat))), (6, .int (iI (ct + 1))), (7, .int (iI (i9))), (9, .int (iI (k)))]) hx hb dX1_wouldMove_168 hl (by decide) rfl (fun ls hl => ?_)
                    refine lv_iload hx hb dX1_wouldMove_170 (lv_at hl 9 rfl) ?_
                    refine lv_iload hx hb dX1_wouldMove_172 (lv_at hl 1 rfl) ?_
                    refine lv_aload_n hx hb dX1_wouldMove_174 rfl (lv_at hl 2 rfl) ?_
                    refine va_get (D := D) (ci := 1) (v := .ref y2) (C := RX1) (T := TX1) (N := 10) hx hb hts hin hown hK hP 0 rfl rfl 2 (by decide) q_marks (fun _ h9 => h9) rfl dX1_wouldMove_175 ?_
                    refine lv_iload_n hx hb dX1_wouldMove_178 rfl (lv_at hl 3 rfl) ?_
                    refine pv_iald (i := x) (v := Gp rp) hx hb hK hP 2 0 rfl rfl (by omega) (by decide) ((hAg _ (by omega) (by omega)).trans (congrArg iI hgx)) dX1_wouldMove_179 ?_
                    refine pv_icmp_ne (tgt := 187) hx hb dX1_wouldMove_180 (by decide) (by omega) (fun c_180 => ?_) (fun c_180 => ?_)
                    · -- 180t
                      refine pv_iconst hx hb dX1_wouldMove_187 ?_
                      refine pv_iadd hx hb dX1_wouldMove_188 ?_
                      refine lv_istore (lv' := [(7, .int (iI ((i9) + (1)))), (8, .int (iI ((wd) + (1)))), (10, .int (iI (Gp (k)))), (0, .ref y0), (1, .int (iI (x))), (2, .int (iI (rp + 1))), (3, .int (iI (lv))), (4, .int (iI (2 ^ lv.toNat))), (5, .int (iI (sh * 2 ^ lv.toNat))), (6, .int (iI (ct + 1))), (9, .int (iI (k)))]) hx hb dX1_wouldMove_189 hl (by decide) rfl (fun ls hl => ?_)
                      refine pv_iinc (lv' := [(9, .int (iI (k + 1))), (7, .int (iI ((i9) + (1)))), (8, .int (iI ((wd) + (1)))), (10, .int (iI (Gp (k)))), (0, .ref y0), (1, .int (iI (x))), (2, .int (iI (rp + 1))), (3, .int (iI (lv))), (4, .int (iI (2 ^ lv.toNat))), (5, .int (iI (sh * 2 ^ lv.toNat))), (6, .int (iI (ct + 1)))]) hx hb dX1_wouldMove_191 hl (k := 10) rfl (by decide) rfl (fun ls hl => ?_)
                      refine lv_goto (tgt := 104) hx hb dX1_wouldMove_194 (by decide) ?_
                      exact ih ((i9) + (1)) ((wd) + (1)) (k + 1) _ _ ls (by omega) (by omega) (by have hkr : k ≠ rp := (fun z => c_180 (by rw [z])); rw [hi9]; (repeat' split) <;> omega) (by rw [hwd, show (if k ≤ bg then 0 else if k ≤ bg + ct then k - bg else ct) = k - bg by (repeat' split) <;> omega, show (if k + 1 ≤ bg then 0 else if k + 1 ≤ bg + ct then k + 1 - bg else ct) = k - bg + 1 by (repeat' split) <;> omega]; exact (cn_t _ (by omega) (decide_eq_true (by rw [show bg + (k - bg) = k by omega, ← hnp]; exact c_159))).symm) ⟨f, g, z, sp, rf, rc, hAf, hAg, hAz, hAsp, hArf, hArc, hP, hD.weaken (fun _ _ _ h => hmb _ h)⟩ hS (lv_sub hl [4, 5, 6, 7, 8, 9, 10, 1, 2, 0] rfl)
                    · -- 180f
                      refine pv_iconst hx hb dX1_wouldMove_183 ?_
                      refine lv_goto (tgt := 188) hx hb dX1_wouldMove_184 (by decide) ?_
                      refine pv_iadd hx hb dX1_wouldMove_188 ?_
                      refine lv_istore (lv' := [(7, .int (iI ((i9) + (2)))), (8, .int (iI ((wd) + (1)))), (10, .int (iI (Gp (k)))), (0, .ref y0), (1, .int (iI (x))), (2, .int (iI (rp + 1))), (3, .int (iI (lv))), (4, .int (iI (2 ^ lv.toNat))), (5, .int (iI (sh * 2 ^ lv.toNat))), (6, .int (iI (ct + 1))), (9, .int (iI (k)))]) hx hb dX1_wouldMove_189 hl (by decide) rfl (fun ls hl => ?_)
                      refine pv_iinc (lv' := [(9, .int (iI (k + 1))), (7, .int (iI ((i9) + (2)))), (8, .int (iI ((wd) + (1)))), (10, .int (iI (Gp (k)))), (0, .ref y0), (1, .int (iI (x))), (2, .int (iI (rp + 1))), (3, .int (iI (lv))), (4, .int (iI (2 ^ lv.toNat))), (5, .int (iI (sh * 2 ^ lv.toNat))), (6, .int (iI (ct + 1)))]) hx hb dX1_wouldMove_191 hl (k := 10) rfl (by decide) rfl (fun ls hl => ?_)
                      refine lv_goto (tgt := 104) hx hb dX1_wouldMove_194 (by decide) ?_
                      exact ih ((i9) + (2)) ((wd) + (1)) (k + 1) _ _ ls (by omega) (by omega) (by have hkr : k = rp := SD_inj hs ⟨by omega, by omega⟩ ⟨hx1, hx2⟩ c_180; rw [hi9]; (repeat' split) <;> omega) (by rw [hwd, show (if k ≤ bg then 0 else if k ≤ bg + ct then k - bg else ct) = k - bg by (repeat' split) <;> omega, show (if k + 1 ≤ bg then 0 else if k + 1 ≤ bg + ct then k + 1 - bg else ct) = k - bg + 1 by (repeat' split) <;> omega]; exact (cn_t _ (by omega) (decide_eq_true (by rw [show bg + (k - bg) = k by omega, ← hnp]; exact c_159))).symm) ⟨f, g, z, sp, rf, rc, hAf, hAg, hAz, hAsp, hArf, hArc, hP, hD.weaken (fun _ _ _ h => hmb _ h)⟩ hS (lv_sub hl [4, 5, 6, 7, 8, 9, 10, 1, 2, 0] rfl)
                  · -- 159f
                    refine pv_iconst hx hb dX1_wouldMove_162 ?_
                    refine lv_goto (tgt := 167) hx hb dX1_wouldMove_163 (by decide) ?_
                    refine pv_iadd hx hb dX1_wouldMove_167 ?_
                    refine lv_istore (lv' := [(8, .int (iI ((wd) + (0)))), (10, .int (iI (Gp (k)))), (0, .ref y0), (1, .int (iI (x))), (2, .int (iI (rp + 1))), (3, .int (iI (lv))), (4, .int (iI (2 ^ lv.toNat))), (5, .int (iI (sh * 2 ^ lv.toNat))), (6, .int (iI (ct + 1))), (7, .int (iI (i9))), (9, .int (iI (k)))]) hx hb dX1_wouldMove_168 hl (by decide) rfl (fun ls hl => ?_)
                    refine lv_iload hx hb dX1_wouldMove_170 (lv_at hl 9 rfl) ?_
                    refine lv_iload hx hb dX1_wouldMove_172 (lv_at hl 1 rfl) ?_
                    refine lv_aload_n hx hb dX1_wouldMove_174 rfl (lv_at hl 2 rfl) ?_
                    refine va_get (D := D) (ci := 1) (v := .ref y2) (C := RX1) (T := TX1) (N := 10) hx hb hts hin hown hK hP 0 rfl rfl 2 (by decide) q_marks (fun _ h9 => h9) rfl dX1_wouldMove_175 ?_
                    refine lv_iload_n hx hb dX1_wouldMove_178 rfl (lv_at hl 3 rfl) ?_
                    refine pv_iald (i := x) (v := Gp rp) hx hb hK hP 2 0 rfl rfl (by omega) (by decide) ((hAg _ (by omega) (by omega)).trans (congrArg iI hgx)) dX1_wouldMove_179 ?_
                    refine pv_icmp_ne (tgt := 187) hx hb dX1_wouldMove_180 (by decide) (by omega) (fun c_180 => ?_) (fun c_180 => ?_)
                    · -- 180t
                      refine pv_iconst hx hb dX1_wouldMove_187 ?_
                      refine pv_iadd hx hb dX1_wouldMove_188 ?_
                      refine lv_istore (lv' := [(7, .int (iI ((i9) + (1)))), (8, .int (iI ((wd) + (0)))), (10, .int (iI (Gp (k)))), (0, .ref y0), (1, .int (iI (x))), (2, .int (iI (rp + 1))), (3, .int (iI (lv))), (4, .int (iI (2 ^ lv.toNat))), (5, .int (iI (sh * 2 ^ lv.toNat))), (6, .int (iI (ct + 1))), (9, .int (iI (k)))]) hx hb dX1_wouldMove_189 hl (by decide) rfl (fun ls hl => ?_)
                      refine pv_iinc (lv' := [(9, .int (iI (k + 1))), (7, .int (iI ((i9) + (1)))), (8, .int (iI ((wd) + (0)))), (10, .int (iI (Gp (k)))), (0, .ref y0), (1, .int (iI (x))), (2, .int (iI (rp + 1))), (3, .int (iI (lv))), (4, .int (iI (2 ^ lv.toNat))), (5, .int (iI (sh * 2 ^ lv.toNat))), (6, .int (iI (ct + 1)))]) hx hb dX1_wouldMove_191 hl (k := 10) rfl (by decide) rfl (fun ls hl => ?_)
                      refine lv_goto (tgt := 104) hx hb dX1_wouldMove_194 (by decide) ?_
                      exact ih ((i9) + (1)) ((wd) + (0)) (k + 1) _ _ ls (by omega) (by omega) (by have hkr : k ≠ rp := (fun z => c_180 (by rw [z])); rw [hi9]; (repeat' split) <;> omega) (by rw [hwd, show (if k ≤ bg then 0 else if k ≤ bg + ct then k - bg else ct) = k - bg by (repeat' split) <;> omega, show (if k + 1 ≤ bg then 0 else if k + 1 ≤ bg + ct then k + 1 - bg else ct) = k - bg + 1 by (repeat' split) <;> omega]; rw [Int.add_zero]; exact (cn_f _ (by omega) (decide_eq_false (by rw [show bg + (k - bg) = k by omega, ← hnp]; exact fun z => z c_159))).symm) ⟨f, g, z, sp, rf, rc, hAf, hAg, hAz, hAsp, hArf, hArc, hP, hD.weaken (fun _ _ _ h => hmb _ h)⟩ hS (lv_sub hl [4, 5, 6, 7, 8, 9, 10, 1, 2, 0] rfl)
                    · -- 180f
                      refine pv_iconst hx hb dX1_wouldMove_183 ?_
                      refine lv_goto (tgt := 188) hx hb dX1_wouldMove_184 (by decide) ?_
                      refine pv_iadd hx hb dX1_wouldMove_188 ?_
                      refine lv_istore (lv' := [(7, .int (iI ((i9) + (2)))), (8, .int (iI ((wd) + (0)))), (10, .int (iI (Gp (k)))), (0, .ref y0), (1, .int (iI (x))), (2, .int (iI (rp + 1))), (3, .int (iI (lv))), (4, .int (iI (2 ^ lv.toNat))), (5, .int (iI (sh * 2 ^ lv.toNat))), (6, .int (iI (ct + 1))), (9, .int (iI (k)))]) hx hb dX1_wouldMove_189 hl (by decide) rfl (fun ls hl => ?_)
                      refine pv_iinc (lv' := [(9, .int (iI (k + 1))), (7, .int (iI ((i9) + (2)))), (8, .int (iI ((wd) + (0)))), (10, .int (iI (Gp (k)))), (0, .ref y0), (1, .int (iI (x))), (2, .int (iI (rp + 1))), (3, .int (iI (lv))), (4, .int (iI (2 ^ lv.toNat))), (5, .int (iI (sh * 2 ^ lv.toNat))), (6, .int (iI (ct + 1)))]) hx hb dX1_wouldMove_191 hl (k := 10) rfl (by decide) rfl (fun ls hl => ?_)
                      refine lv_goto (tgt := 104) hx hb dX1_wouldMove_194 (by decide) ?_
                      exact ih ((i9) + (2)) ((wd) + (0)) (k + 1) _ _ ls (by omega) (by omega) (by have hkr : k = rp := SD_inj hs ⟨by omega, by omega⟩ ⟨hx1, hx2⟩ c_180; rw [hi9]; (repeat' split) <;> omega) (by rw [hwd, show (if k ≤ bg then 0 else if k ≤ bg + ct then k - bg else ct) = k - bg by (repeat' split) <;> omega, show (if k + 1 ≤ bg then 0 else if k + 1 ≤ bg + ct then k + 1 - bg else ct) = k - bg + 1 by (repeat' split) <;> omega]; rw [Int.add_zero]; exact (cn_f _ (by omega) (decide_eq_false (by rw [show bg + (k - bg) = k by omega, ← hnp]; exact fun z => z c_159))).symm) ⟨f, g, z, sp, rf, rc, hAf, hAg, hAz, hAsp, hArf, hArc, hP, hD.weaken (fun _ _ _ h => hmb _ h)⟩ hS (lv_sub hl [4, 5, 6, 7, 8, 9, 10, 1, 2, 0] rfl)
        exact hloop104 ((n : Int).toNat + 1) (0) (0) (0) _ _ ls (by omega) (by omega) (by rw [if_pos (by omega)]) (by rw [if_pos (by omega)]; rfl) ⟨f, g, z, sp, rf, rc, hAf, hAg, hAz, hAsp, hArf, hArc, hP, hD.weaken (fun _ _ _ h => hmb _ h)⟩ hS (lv_sub hl [8, 9, 7, 6, 5, 4, 3, 2, 1, 0] rfl)
      · exfalso; omega
    · exact absurd c_21 (by omega)
