set_option maxHeartbeats 4000000 in
set_option maxRecDepth 100000 in
theorem c_set (l : Launch) (D : va_G) (cI : ClassId) (base st : Nat) (Z : Nat → Nat) (x0 x1 x2 x5 x6 x7 : Nat) {n came MV : Int} {F G SP RF RC : Int → Int} (hn : 0 ≤ n ∧ n ≤ 60) (v : Int) (hv : 0 ≤ v ∧ v < n) (fo mk : Int) : mu_M l yX0_set wsX0_set ({ frames := 1, cells := 0, slots := 0, locals := 21 } : Room) [.ref x0, .int (iI (v)), .int (iI (fo)), .int (iI (mk))] (CP D cI base st Z x0 x1 x2 x5 x6 x7 n came MV F G SP RF RC) none ((fun H => CW D cI base x0 x1 x2 x5 x6 x7 (n) (came) (MV) (uI F v fo) (uI G v mk) (SP) (RF) (RC) H)) (mC x0 x1 x2 x5 x6 x7) := by
  refine mu_of (cc := cX0_set) (maxL := 4) (ret := none) (own := RX0) (by decide) rfl rfl (Nat.le_of_ble_eq_true rfl) ?_
  intro p e s m below meth c ls B hCP hl hS
  obtain ⟨hx, hb, hml, hr, hts, hown, hlocks⟩ := B
  obtain ⟨⟨hK, hZL, ⟨hstb, xs, hXL, hAL⟩, hTW⟩, f, g, sp, rf, rc, hAf, hAg, hAsp, hArf, hArc, hP, hDb⟩ := id hCP
  have hD := CW_mD hDb
  have hmb := mC_b hDb
  have hbl := CW_lt hCP.2
  have hSW0 := hCP.1
  have hl : lv_has ls 4 [(0, .ref x0), (1, .int (iI (v))), (2, .int (iI (fo))), (3, .int (iI (mk)))] := hl
  have hin : ∀ w ∈ u_ws RX0 TX0 8, w ∈ wsX0_set := by decide +kernel
  have q_folders := hts (.fieldLink RX0 9 "ShelfMarks" "folders" "[I") (by decide +kernel)
  have q_marks := hts (.fieldLink RX0 13 "ShelfMarks" "marks" "[I") (by decide +kernel)
  refine lv_aload_n hx hb dX0_set_0 rfl (lv_at hl 0 rfl) ?_
  refine lv_iload_n hx hb dX0_set_1 rfl (lv_at hl 1 rfl) ?_
  have hCP : CP D cI base st Z x0 x1 x2 x5 x6 x7 (n) (came) (MV) (F) (G) (SP) (RF) (RC) s s.heap := ⟨hSW0.behind hbl hmb hS, ⟨f, g, sp, rf, rc, hAf, hAg, hAsp, hArf, hArc, hP, hD.weaken (fun _ _ _ h => hmb _ h)⟩⟩
  refine pu_callV (v := 1) (As := [.int (iI (v))]) (rest := []) CP_mv ⟨hx, hb, hml, hown, hts⟩ (c_isPlace l D cI base st Z x0 x1 x2 x5 x6 x7 hn v (by omega) 1 (by unfold ip; rw [if_pos hv])) (cwV 1 hts gX0_set_X0_isPlace rfl rfl rfl (by decide +kernel) ⟨(Nat.le_of_ble_eq_true rfl), (Nat.le_of_ble_eq_true rfl)⟩) hCP (CP_rc hCP) rfl rfl hl.1 (Nat.le_of_ble_eq_true rfl) dX0_set_2 ⟨Nat.zero_le _, Nat.zero_le _⟩ ?_
  refine pv_if_eq (tgt := 22) hx hb dX0_set_5 (by decide) (by omega) (fun c_5 => ?_) (fun c_5 => ?_)
  · exact absurd c_5 (by omega)
  · -- 5f
    refine lv_aload_n hx hb dX0_set_8 rfl (lv_at hl 0 rfl) ?_
    refine va_get (D := D) (ci := 0) (v := .ref x1) (C := RX0) (T := TX0) (N := 8) hx hb hts hin hown hK hP 0 rfl rfl 0 (by decide) q_folders (fun _ h9 => h9) rfl dX0_set_9 ?_
    refine lv_iload_n hx hb dX0_set_12 rfl (lv_at hl 1 rfl) ?_
    refine lv_iload_n hx hb dX0_set_13 rfl (lv_at hl 2 rfl) ?_
    refine pv_iast (i := v) (v := fo) hx hb hK hP hD hS 1 0 rfl rfl (by omega) (by decide) dX0_set_14 (fun H locs hP hD hS => ?_)
    have hP : va_P D vwCl (W0 cI x0 x1 x2 x5 x6 x7 (n) (came) (MV) (upd f (v).toNat (iI (fo))) g sp rf rc) H := hP
    have hD : va_D (mC x0 x1 x2 x5 x6 x7) (W0 cI x0 x1 x2 x5 x6 x7 (n) (came) (MV) (upd f (v).toNat (iI (fo))) g sp rf rc) := hD
    have hAf := AR_up (k := v) (v := fo) hAf (by omega)
    generalize upd f (v).toNat (iI (fo)) = f at hP hD hAf
    refine lv_aload_n hx hb dX0_set_15 rfl (lv_at hl 0 rfl) ?_
    refine va_get (D := D) (ci := 0) (v := .ref x2) (C := RX0) (T := TX0) (N := 8) hx hb hts hin hown hK hP 0 rfl rfl 1 (by decide) q_marks (fun _ h9 => h9) rfl dX0_set_16 ?_
    refine lv_iload_n hx hb dX0_set_19 rfl (lv_at hl 1 rfl) ?_
    refine lv_iload_n hx hb dX0_set_20 rfl (lv_at hl 3 rfl) ?_
    refine pv_iast (i := v) (v := mk) hx hb hK hP hD hS 2 0 rfl rfl (by omega) (by decide) dX0_set_21 (fun H locs hP hD hS => ?_)
    have hP : va_P D vwCl (W0 cI x0 x1 x2 x5 x6 x7 (n) (came) (MV) f (upd g (v).toNat (iI (mk))) sp rf rc) H := hP
    have hD : va_D (mC x0 x1 x2 x5 x6 x7) (W0 cI x0 x1 x2 x5 x6 x7 (n) (came) (MV) f (upd g (v).toNat (iI (mk))) sp rf rc) := hD
    have hAg := AR_up (k := v) (v := mk) hAg (by omega)
    generalize upd g (v).toNat (iI (mk)) = g at hP hD hAg
    exact mu_vret hx hb hr hlocks hS dX0_set_22 ⟨f, g, sp, rf, rc, hAf, hAg, hAsp, hArf, hArc, hP, hD.weaken (fun _ _ _ h => hmb _ h)⟩
set_option maxHeartbeats 4000000 in
set_option maxRecDepth 100000 in
theorem c_insertAt (l : Launch) (D : va_G) (cI : ClassId) (base st : Nat) (Z : Nat → Nat) (x0 x1 x2 x5 x6 x7 : Nat) {n came MV : Int} {F G SP RF RC : Int → Int} (hn : 0 ≤ n ∧ n < 60) (q : Int) (hq : 0 ≤ q ∧ q ≤ n) (fo mk : Int) : mu_M l yX0_insertAt wsX0_insertAt ({ frames := 2, cells := 0, slots := 0, locals := 44 } : Room) [.ref x0, .int (iI (q)), .int (iI (fo)), .int (iI (mk))] (CP D cI base st Z x0 x1 x2 x5 x6 x7 n came MV F G SP RF RC) none ((fun H => CW D cI base x0 x1 x2 x5 x6 x7 (n + 1) (came) (MV) (insF F q fo) (insF G q mk) (SP) (RF) (RC) H)) (mC x0 x1 x2 x5 x6 x7) := by
  refine mu_of (cc := cX0_insertAt) (maxL := 5) (ret := none) (own := RX0) (by decide) rfl rfl (Nat.le_of_ble_eq_true rfl) ?_
  intro p e s m below meth c ls B hCP hl hS
  obtain ⟨hx, hb, hml, hr, hts, hown, hlocks⟩ := B
  obtain ⟨⟨hK, hZL, ⟨hstb, xs, hXL, hAL⟩, hTW⟩, f, g, sp, rf, rc, hAf, hAg, hAsp, hArf, hArc, hP, hDb⟩ := id hCP
  have hD := CW_mD hDb
  have hmb := mC_b hDb
  have hbl := CW_lt hCP.2
  have hSW0 := hCP.1
  have hl : lv_has ls 5 [(0, .ref x0), (1, .int (iI (q))), (2, .int (iI (fo))), (3, .int (iI (mk)))] := hl
  have hin : ∀ w ∈ u_ws RX0 TX0 8, w ∈ wsX0_insertAt := by decide +kernel
  have q_count := hts (.fieldLink RX0 53 "ShelfMarks" "count" "I") (by decide +kernel)
  refine lv_iload_n hx hb dX0_insertAt_0 rfl (lv_at hl 1 rfl) ?_
  refine pv_if_lt (tgt := 21) hx hb dX0_insertAt_1 (by decide) (by omega) (fun c_1 => ?_) (fun c_1 => ?_)
  · exfalso; omega
  · -- 1f
    refine lv_iload_n hx hb dX0_insertAt_4 rfl (lv_at hl 1 rfl) ?_
    refine lv_aload_n hx hb dX0_insertAt_5 rfl (lv_at hl 0 rfl) ?_
    refine va_get (D := D) (ci := 0) (v := .int (iI (n))) (C := RX0) (T := TX0) (N := 8) hx hb hts hin hown hK hP 0 rfl rfl 2 (by decide) q_count (fun _ h9 => h9) rfl dX0_insertAt_6 ?_
    refine pv_icmp_gt (tgt := 21) hx hb dX0_insertAt_9 (by decide) (by omega) (fun c_9 => ?_) (fun c_9 => ?_)
    · exfalso; omega
    · -- 9f
      refine lv_aload_n hx hb dX0_insertAt_12 rfl (lv_at hl 0 rfl) ?_
      refine va_get (D := D) (ci := 0) (v := .int (iI (n))) (C := RX0) (T := TX0) (N := 8) hx hb hts hin hown hK hP 0 rfl rfl 2 (by decide) q_count (fun _ h9 => h9) rfl dX0_insertAt_13 ?_
      refine pv_bipush hx hb dX0_insertAt_16 (by decide +kernel) ?_
      refine pv_icmp_lt (tgt := 22) hx hb dX0_insertAt_18 (by decide) (by omega) (fun c_18 => ?_) (fun c_18 => ?_)
      · -- 18t
        refine lv_aload_n hx hb dX0_insertAt_22 rfl (lv_at hl 0 rfl) ?_
        refine lv_dup hx hb dX0_insertAt_23 rfl ?_
        refine va_get (D := D) (ci := 0) (v := .int (iI (n))) (C := RX0) (T := TX0) (N := 8) hx hb hts hin hown hK hP 0 rfl rfl 2 (by decide) q_count (fun _ h9 => h9) rfl dX0_insertAt_24 ?_
        refine pv_iconst hx hb dX0_insertAt_27 ?_
        refine pv_iadd hx hb dX0_insertAt_28 ?_
        refine va_put (D := D) (ci := 0) (v := .int (iI ((n) + (1)))) (ty := .int) (C := RX0) (T := TX0) (N := 8) hx hb hts hin tyX0 tyX0_ok nmX0 hown hK hP hD hS 0 rfl rfl 2 (by decide) q_count (fun _ h9 => h9) rfl (by decide +kernel) rfl rfl (Nat.le_of_ble_eq_true rfl) dX0_insertAt_29 (fun H locs hP hD hS => ?_)
        have hP : va_P D vwCl (W0 cI x0 x1 x2 x5 x6 x7 ((n) + (1)) (came) (MV) f g sp rf rc) H := hP
        have hD : va_D (mC x0 x1 x2 x5 x6 x7) (W0 cI x0 x1 x2 x5 x6 x7 ((n) + (1)) (came) (MV) f g sp rf rc) := hD
        obtain ⟨F1, hAf9, hF1⟩ := AR_all hAf
        obtain ⟨G1, hAg9, hG1⟩ := AR_all hAg
        have hAf := hAf9 (n + 1)
        have hAg := hAg9 (n + 1)
        refine lv_aload_n hx hb dX0_insertAt_32 rfl (lv_at hl 0 rfl) ?_
        refine va_get (D := D) (ci := 0) (v := .int (iI ((n) + (1)))) (C := RX0) (T := TX0) (N := 8) hx hb hts hin hown hK hP 0 rfl rfl 2 (by decide) q_count (fun _ h9 => h9) rfl dX0_insertAt_33 ?_
        refine pv_iconst hx hb dX0_insertAt_36 ?_
        refine pv_isub hx hb dX0_insertAt_37 ?_
        rw [show iI (((n) + (1)) - (1)) = iI (n) from congrArg iI ((by omega))]
        refine lv_istore (lv' := [(4, .int (iI (n))), (0, .ref x0), (1, .int (iI (q))), (2, .int (iI (fo))), (3, .int (iI (mk)))]) hx hb dX0_insertAt_38 hl (by decide) rfl (fun ls hl => ?_)
        have hloop40 : ∀ (fuel : Nat) (to : Int) (F2 : Int → Int) (G2 : Int → Int) (H : Heap) (locs : List Loc) (ls : Array Slot), (to - q) < fuel → (q ≤ to ∧ to ≤ n) → (∀ k : Int, 0 ≤ k → k ≤ to → k < n → F2 k = F k ∧ G2 k = G k) → (∀ k : Int, to < k → k ≤ n → F2 k = F (k - 1) ∧ G2 k = G (k - 1)) → CW D cI base x0 x1 x2 x5 x6 x7 (n + 1) (came) (MV) (F2) (G2) (SP) (RF) (RC) H → va_S (mC x0 x1 x2 x5 x6 x7) s.heap H locs → lv_has ls 5 [(0, .ref x0), (1, .int (iI (q))), (2, .int (iI (fo))), (3, .int (iI (mk))), (4, .int (iI (to)))] → W p l e ({ frames := 2, cells := 0, slots := 0, locals := 44 } : Room) s m ([.ref x0, .int (iI (q)), .int (iI (fo)), .int (iI (mk))] : List Value).toArray below meth c H locs 0 0 (MQ below (mu_Q none ((fun H => CW D cI base x0 x1 x2 x5 x6 x7 (n + 1) (came) (MV) (insF F q fo) (insF G q mk) (SP) (RF) (RC) H)) (mC x0 x1 x2 x5 x6 x7)) ([.ref x0, .int (iI (q)), .int (iI (fo)), .int (iI (mk))] : List Value).toArray s 0 0 (mC x0 x1 x2 x5 x6 x7)) (F0 m 40 ls []) := by
          intro fuel
          induction fuel with
          | zero => intro to F2 G2 H locs ls hfu ht hFa hFb hC9 hS hl; exfalso; omega
          | succ fuel ih =>
            intro to F2 G2 H locs ls hfu ht hFa hFb hC9 hS hl
            obtain ⟨f, g, sp, rf, rc, hAf, hAg, hAsp, hArf, hArc, hP, hDb⟩ := hC9
            have hD := CW_mD hDb
            refine lv_iload hx hb dX0_insertAt_40 (lv_at hl 4 rfl) ?_
            refine lv_iload_n hx hb dX0_insertAt_42 rfl (lv_at hl 1 rfl) ?_
            refine pv_icmp_le (tgt := 74) hx hb dX0_insertAt_43 (by decide) (by omega) (fun c_43 => ?_) (fun c_43 => ?_)
            · -- 43t
              refine lv_aload_n hx hb dX0_insertAt_74 rfl (lv_at hl 0 rfl) ?_
              refine lv_iload_n hx hb dX0_insertAt_75 rfl (lv_at hl 1 rfl) ?_
              refine lv_iload_n hx hb dX0_insertAt_76 rfl (lv_at hl 2 rfl) ?_
              refine lv_iload_n hx hb dX0_insertAt_77 rfl (lv_at hl 3 rfl) ?_
              have hCP : CP D cI base st Z x0 x1 x2 x5 x6 x7 (n + 1) (came) (MV) (F2) (G2) (SP) (RF) (RC) s H := ⟨hSW0.behind hbl hmb hS, ⟨f, g, sp, rf, rc, hAf, hAg, hAsp, hArf, hArc, hP, hD.weaken (fun _ _ _ h => hmb _ h)⟩⟩
              refine mu_callV (As := [.int (iI (q)), .int (iI (fo)), .int (iI (mk))]) (rest := []) CP_mv ⟨hx, hb, hml, hown, hts⟩ (c_set l D cI base st Z x0 x1 x2 x5 x6 x7 (by omega) q (by omega) fo mk) (cwV 3 hts gX0_insertAt_X0_set rfl rfl rfl (by decide +kernel) ⟨(Nat.le_of_ble_eq_true rfl), (Nat.le_of_ble_eq_true rfl)⟩) hCP (CP_rc hCP) rfl rfl hl.1 (Nat.le_of_ble_eq_true rfl) dX0_insertAt_78 ⟨Nat.zero_le _, Nat.zero_le _⟩ hS (fun _ h => h) (fun H locs hC9 hz9 hk9 hS => ?_)
              have hC9 : CW D cI base x0 x1 x2 x5 x6 x7 (n + 1) (came) (MV) (uI F2 q fo) (uI G2 q mk) (SP) (RF) (RC) H := hC9
              obtain ⟨f, g, sp, rf, rc, hAf, hAg, hAsp, hArf, hArc, hP, hDb⟩ := hC9
              have hD := CW_mD hDb
              exact mu_vret hx hb hr hlocks hS dX0_insertAt_81 ⟨f, g, sp, rf, rc, AR_to hAf (Int.le_refl _) (ins_fin hq.2 (fun k h0 h1 h2 => (hFa k h0 (by omega) h2).1) (fun k h0 h1 => (hFb k (by omega) h1).1)), AR_to hAg (Int.le_refl _) (ins_fin hq.2 (fun k h0 h1 h2 => (hFa k h0 (by omega) h2).2) (fun k h0 h1 => (hFb k (by omega) h1).2)), hAsp, hArf, hArc, hP, hD.weaken (fun _ _ _ h => hmb _ h)⟩
            · -- 43f
              refine lv_aload_n hx hb dX0_insertAt_46 rfl (lv_at hl 0 rfl) ?_
              refine lv_iload hx hb dX0_insertAt_47 (lv_at hl 4 rfl) ?_
              refine lv_aload_n hx hb dX0_insertAt_49 rfl (lv_at hl 0 rfl) ?_
              refine lv_iload hx hb dX0_insertAt_50 (lv_at hl 4 rfl) ?_
              refine pv_iconst hx hb dX0_insertAt_52 ?_
              refine pv_isub hx hb dX0_insertAt_53 ?_
              have hCP : CP D cI base st Z x0 x1 x2 x5 x6 x7 (n + 1) (came) (MV) (F2) (G2) (SP) (RF) (RC) s H := ⟨hSW0.behind hbl hmb hS, ⟨f, g, sp, rf, rc, hAf, hAg, hAsp, hArf, hArc, hP, hD.weaken (fun _ _ _ h => hmb _ h)⟩⟩
              refine pu_callV (v := F (to - 1)) (As := [.int (iI ((to) - (1)))]) (rest := [.int (iI (to)), .ref x0]) CP_mv ⟨hx, hb, hml, hown, hts⟩ (c_folderAt l D cI base st Z x0 x1 x2 x5 x6 x7 (by omega) (to - 1) (by omega) _ (by unfold fa; rw [if_pos (by omega)]; exact (hFa (to - 1) (by omega) (by omega) (by omega)).1.symm)) (cwV 1 hts gX0_insertAt_X0_folderAt rfl rfl rfl (by decide +kernel) ⟨(Nat.le_of_ble_eq_true rfl), (Nat.le_of_ble_eq_true rfl)⟩) hCP (CP_rc hCP) rfl rfl hl.1 (Nat.le_of_ble_eq_true rfl) dX0_insertAt_54 ⟨Nat.zero_le _, Nat.zero_le _⟩ ?_
              refine lv_aload_n hx hb dX0_insertAt_57 rfl (lv_at hl 0 rfl) ?_
              refine lv_iload hx hb dX0_insertAt_58 (lv_at hl 4 rfl) ?_
              refine pv_iconst hx hb dX0_insertAt_60 ?_
              refine pv_isub hx hb dX0_insertAt_61 ?_
              have hCP : CP D cI base st Z x0 x1 x2 x5 x6 x7 (n + 1) (came) (MV) (F2) (G2) (SP) (RF) (RC) s H := ⟨hSW0.behind hbl hmb hS, ⟨f, g, sp, rf, rc, hAf, hAg, hAsp, hArf, hArc, hP, hD.weaken (fun _ _ _ h => hmb _ h)⟩⟩
              refine pu_callV (v := G (to - 1)) (As := [.int (iI ((to) - (1)))]) (rest := [.int (iI (F (to - 1))), .int (iI (to)), .ref x0]) CP_mv ⟨hx, hb, hml, hown, hts⟩ (c_markAt l D cI base st Z x0 x1 x2 x5 x6 x7 (by omega) (to - 1) (by omega) _ ((hFa (to - 1) (by omega) (by omega) (by omega)).2.symm.trans (ma_in (by omega)))) (cwV 1 hts gX0_insertAt_X0_markAt rfl rfl rfl (by decide +kernel) ⟨(Nat.le_of_ble_eq_true rfl), (Nat.le_of_ble_eq_true rfl)⟩) hCP (CP_rc hCP) rfl rfl hl.1 (Nat.le_of_ble_eq_true rfl) dX0_insertAt_62 ⟨Nat.zero_le _, Nat.zero_le _⟩ ?_
              have hCP : CP D cI base st Z x0 x1 x2 x5 x6 x7 (n + 1) (came) (MV) (F2) (G2) (SP) (RF) (RC) s H := ⟨hSW0.behind hbl hmb hS, ⟨f, g, sp, rf, rc, hAf, hAg, hAsp, hArf, hArc, hP, hD.weaken (fun _ _ _ h => hmb _ h)⟩⟩
              refine mu_callV (As := [.int (iI (to)), .int (iI (F (to - 1))), .int (iI (G (to - 1)))]) (rest := []) CP_mv ⟨hx, hb, hml, hown, hts⟩ (c_set l D cI base st Z x0 x1 x2 x5 x6 x7 (by omega) to (by omega) (F (to - 1)) (G (to - 1))) (cwV 3 hts gX0_insertAt_X0_set rfl rfl rfl (by decide +kernel) ⟨(Nat.le_of_ble_eq_true rfl), (Nat.le_of_ble_eq_true rfl)⟩) hCP (CP_rc hCP) rfl rfl hl.1 (Nat.le_of_ble_eq_true rfl) dX0_insertAt_65 ⟨Nat.zero_le _, Nat.zero_le _⟩ hS (fun _ h => h) (fun H locs hC9 hz9 hk9 hS => ?_)
              have hC9 : CW D cI base x0 x1 x2 x5 x6 x7 (n + 1) (came) (MV) (uI F2 to (F (to - 1))) (uI G2 to (G (to - 1))) (SP) (RF) (RC) H := hC9
              obtain ⟨f, g, sp, rf, rc, hAf, hAg, hAsp, hArf, hArc, hP, hDb⟩ := hC9
              have hD := CW_mD hDb
              refine pv_iinc (lv' := [(4, .int (iI (to + (-1)))), (0, .ref x0), (1, .int (iI (q))), (2, .int (iI (fo))), (3, .int (iI (mk)))]) hx hb dX0_insertAt_68 hl (k := 4) rfl (by decide) rfl (fun ls hl => ?_)
              refine lv_goto (tgt := 40) hx hb dX0_insertAt_71 (by decide) ?_
              exact ih (to + (-1)) (_) (_) _ _ ls (by omega) (by omega) (fun k h0 h1 h2 => by unfold uI; rw [if_neg (by omega), if_neg (by omega)]; exact hFa k h0 (by omega) h2) (fun k h0 h1 => by unfold uI; rcases (show k = to ∨ to < k by omega) with z | z; (rw [if_pos z, if_pos z, z]; exact ⟨rfl, rfl⟩); (rw [if_neg (by omega), if_neg (by omega)]; exact hFb k z h1)) ⟨f, g, sp, rf, rc, hAf, hAg, hAsp, hArf, hArc, hP, hD.weaken (fun _ _ _ h => hmb _ h)⟩ hS (lv_sub hl [1, 2, 3, 4, 0] rfl)
        exact hloop40 ((n : Int).toNat + 1) (n) (F1) (G1) _ _ ls (by omega) (by omega) (fun k h0 h1 h2 => ⟨hF1 k h0 h2, hG1 k h0 h2⟩) (fun k h0 h1 => absurd h1 (by omega)) ⟨f, g, sp, rf, rc, hAf, hAg, hAsp, hArf, hArc, hP, hD.weaken (fun _ _ _ h => hmb _ h)⟩ hS (lv_sub hl [1, 2, 3, 4, 0] rfl)
      · exfalso; omega
set_option maxHeartbeats 4000000 in
set_option maxRecDepth 100000 in
theorem c_removeAt (l : Launch) (D : va_G) (cI : ClassId) (base st : Nat) (Z : Nat → Nat) (x0 x1 x2 x5 x6 x7 : Nat) {n came MV : Int} {F G SP RF RC : Int → Int} (hn : 0 ≤ n ∧ n ≤ 60) (q : Int) (hq : 0 ≤ q ∧ q < n) : mu_M l yX0_removeAt wsX0_removeAt ({ frames := 2, cells := 0, slots := 0, locals := 44 } : Room) [.ref x0, .int (iI (q))] (CP D cI base st Z x0 x1 x2 x5 x6 x7 n came MV F G SP RF RC) none ((fun H => CW D cI base x0 x1 x2 x5 x6 x7 (n - 1) (came) (MV) (remF F q) (remF G q) (SP) (RF) (RC) H)) (mC x0 x1 x2 x5 x6 x7) := by
  refine mu_of (cc := cX0_removeAt) (maxL := 3) (ret := none) (own := RX0) (by decide) rfl rfl (Nat.le_of_ble_eq_true rfl) ?_
  intro p e s m below meth c ls B hCP hl hS
  obtain ⟨hx, hb, hml, hr, hts, hown, hlocks⟩ := B
  obtain ⟨⟨hK, hZL, ⟨hstb, xs, hXL, hAL⟩, hTW⟩, f, g, sp, rf, rc, hAf, hAg, hAsp, hArf, hArc, hP, hDb⟩ := id hCP
  have hD := CW_mD hDb
  have hmb := mC_b hDb
  have hbl := CW_lt hCP.2
  have hSW0 := hCP.1
  have hl : lv_has ls 3 [(0, .ref x0), (1, .int (iI (q)))] := hl
  have hin : ∀ w ∈ u_ws RX0 TX0 8, w ∈ wsX0_removeAt := by decide +kernel
  have q_count := hts (.fieldLink RX0 53 "ShelfMarks" "count" "I") (by decide +kernel)
  refine lv_aload_n hx hb dX0_removeAt_0 rfl (lv_at hl 0 rfl) ?_
  refine lv_iload_n hx hb dX0_removeAt_1 rfl (lv_at hl 1 rfl) ?_
  have hCP : CP D cI base st Z x0 x1 x2 x5 x6 x7 (n) (came) (MV) (F) (G) (SP) (RF) (RC) s s.heap := ⟨hSW0.behind hbl hmb hS, ⟨f, g, sp, rf, rc, hAf, hAg, hAsp, hArf, hArc, hP, hD.weaken (fun _ _ _ h => hmb _ h)⟩⟩
  refine pu_callV (v := 1) (As := [.int (iI (q))]) (rest := []) CP_mv ⟨hx, hb, hml, hown, hts⟩ (c_isPlace l D cI base st Z x0 x1 x2 x5 x6 x7 hn q (by omega) 1 (by unfold ip; rw [if_pos hq])) (cwV 1 hts gX0_removeAt_X0_isPlace rfl rfl rfl (by decide +kernel) ⟨(Nat.le_of_ble_eq_true rfl), (Nat.le_of_ble_eq_true rfl)⟩) hCP (CP_rc hCP) rfl rfl hl.1 (Nat.le_of_ble_eq_true rfl) dX0_removeAt_2 ⟨Nat.zero_le _, Nat.zero_le _⟩ ?_
  refine pv_if_ne (tgt := 9) hx hb dX0_removeAt_5 (by decide) (by omega) (fun c_5 => ?_) (fun c_5 => ?_)
  · -- 5t
    refine lv_iload_n hx hb dX0_removeAt_9 rfl (lv_at hl 1 rfl) ?_
    refine lv_istore_n (lv' := [(2, .int (iI (q))), (0, .ref x0), (1, .int (iI (q)))]) hx hb dX0_removeAt_10 rfl hl (by decide) rfl (fun ls hl => ?_)
    have hloop11 : ∀ (fuel : Nat) (i : Int) (F2 : Int → Int) (G2 : Int → Int) (H : Heap) (locs : List Loc) (ls : Array Slot), (n - i) < fuel → (q ≤ i ∧ i < n) → (∀ k : Int, 0 ≤ k → k < i → F2 k = remF F q k ∧ G2 k = remF G q k) → (∀ k : Int, i ≤ k → k < n → F2 k = F k ∧ G2 k = G k) → CW D cI base x0 x1 x2 x5 x6 x7 (n) (came) (MV) (F2) (G2) (SP) (RF) (RC) H → va_S (mC x0 x1 x2 x5 x6 x7) s.heap H locs → lv_has ls 3 [(0, .ref x0), (1, .int (iI (q))), (2, .int (iI (i)))] → W p l e ({ frames := 2, cells := 0, slots := 0, locals := 44 } : Room) s m ([.ref x0, .int (iI (q))] : List Value).toArray below meth c H locs 0 0 (MQ below (mu_Q none ((fun H => CW D cI base x0 x1 x2 x5 x6 x7 (n - 1) (came) (MV) (remF F q) (remF G q) (SP) (RF) (RC) H)) (mC x0 x1 x2 x5 x6 x7)) ([.ref x0, .int (iI (q))] : List Value).toArray s 0 0 (mC x0 x1 x2 x5 x6 x7)) (F0 m 11 ls []) := by
      intro fuel
      induction fuel with
      | zero => intro i F2 G2 H locs ls hfu hi hFa hFb hC9 hS hl; exfalso; omega
      | succ fuel ih =>
        intro i F2 G2 H locs ls hfu hi hFa hFb hC9 hS hl
        obtain ⟨f, g, sp, rf, rc, hAf, hAg, hAsp, hArf, hArc, hP, hDb⟩ := hC9
        have hD := CW_mD hDb
        refine lv_iload_n hx hb dX0_removeAt_11 rfl (lv_at hl 2 rfl) ?_
        refine lv_aload_n hx hb dX0_removeAt_12 rfl (lv_at hl 0 rfl) ?_
        refine va_get (D := D) (ci := 0) (v := .int (iI (n))) (C := RX0) (T := TX0) (N := 8) hx hb hts hin hown hK hP 0 rfl rfl 2 (by decide) q_count (fun _ h9 => h9) rfl dX0_removeAt_13 ?_
        refine pv_iconst hx hb dX0_removeAt_16 ?_
        refine pv_isub hx hb dX0_removeAt_17 ?_
        refine pv_icmp_ge (tgt := 46) hx hb dX0_removeAt_18 (by decide) (by omega) (fun c_18 => ?_) (fun c_18 => ?_)
        · -- 18t
          refine lv_aload_n hx hb dX0_removeAt_46 rfl (lv_at hl 0 rfl) ?_
          refine lv_dup hx hb dX0_removeAt_47 rfl ?_
          refine va_get (D := D) (ci := 0) (v := .int (iI (n))) (C := RX0) (T := TX0) (N := 8) hx hb hts hin hown hK hP 0 rfl rfl 2 (by decide) q_count (fun _ h9 => h9) rfl dX0_removeAt_48 ?_
          refine pv_iconst hx hb dX0_removeAt_51 ?_
          refine pv_isub hx hb dX0_removeAt_52 ?_
          refine va_put (D := D) (ci := 0) (v := .int (iI ((n) - (1)))) (ty := .int) (C := RX0) (T := TX0) (N := 8) hx hb hts hin tyX0 tyX0_ok nmX0 hown hK hP hD hS 0 rfl rfl 2 (by decide) q_count (fun _ h9 => h9) rfl (by decide +kernel) rfl rfl (Nat.le_of_ble_eq_true rfl) dX0_removeAt_53 (fun H locs hP hD hS => ?_)
          have hP : va_P D vwCl (W0 cI x0 x1 x2 x5 x6 x7 ((n) - (1)) (came) (MV) f g sp rf rc) H := hP
          have hD : va_D (mC x0 x1 x2 x5 x6 x7) (W0 cI x0 x1 x2 x5 x6 x7 ((n) - (1)) (came) (MV) f g sp rf rc) := hD
          exact mu_vret hx hb hr hlocks hS dX0_removeAt_56 ⟨f, g, sp, rf, rc, AR_to hAf (by omega) (fun k h0 h1 => (hFa k h0 (by omega)).1), AR_to hAg (by omega) (fun k h0 h1 => (hFa k h0 (by omega)).2), hAsp, hArf, hArc, hP, hD.weaken (fun _ _ _ h => hmb _ h)⟩
        · -- 18f
          refine lv_aload_n hx hb dX0_removeAt_21 rfl (lv_at hl 0 rfl) ?_
          refine lv_iload_n hx hb dX0_removeAt_22 rfl (lv_at hl 2 rfl) ?_
          refine lv_aload_n hx hb dX0_removeAt_23 rfl (lv_at hl 0 rfl) ?_
          refine lv_iload_n hx hb dX0_removeAt_24 rfl (lv_at hl 2 rfl) ?_
          refine pv_iconst hx hb dX0_removeAt_25 ?_
          refine pv_iadd hx hb dX0_removeAt_26 ?_
          have hCP : CP D cI base st Z x0 x1 x2 x5 x6 x7 (n) (came) (MV) (F2) (G2) (SP) (RF) (RC) s H := ⟨hSW0.behind hbl hmb hS, ⟨f, g, sp, rf, rc, hAf, hAg, hAsp, hArf, hArc, hP, hD.weaken (fun _ _ _ h => hmb _ h)⟩⟩
          refine pu_callV (v := F (i + 1)) (As := [.int (iI ((i) + (1)))]) (rest := [.int (iI (i)), .ref x0]) CP_mv ⟨hx, hb, hml, hown, hts⟩ (c_folderAt l D cI base st Z x0 x1 x2 x5 x6 x7 hn (i + 1) (by omega) _ (by unfold fa; rw [if_pos (by omega)]; exact (hFb (i + 1) (by omega) (by omega)).1.symm)) (cwV 1 hts gX0_removeAt_X0_folderAt rfl rfl rfl (by decide +kernel) ⟨(Nat.le_of_ble_eq_true rfl), (Nat.le_of_ble_eq_true rfl)⟩) hCP (CP_rc hCP) rfl rfl hl.1 (Nat.le_of_ble_eq_true rfl) dX0_removeAt_27 ⟨Nat.zero_le _, Nat.zero_le _⟩ ?_
          refine lv_aload_n hx hb dX0_removeAt_30 rfl (lv_at hl 0 rfl) ?_
          refine lv_iload_n hx hb dX0_removeAt_31 rfl (lv_at hl 2 rfl) ?_
          refine pv_iconst hx hb dX0_removeAt_32 ?_
          refine pv_iadd hx hb dX0_removeAt_33 ?_
          have hCP : CP D cI base st Z x0 x1 x2 x5 x6 x7 (n) (came) (MV) (F2) (G2) (SP) (RF) (RC) s H := ⟨hSW0.behind hbl hmb hS, ⟨f, g, sp, rf, rc, hAf, hAg, hAsp, hArf, hArc, hP, hD.weaken (fun _ _ _ h => hmb _ h)⟩⟩
          refine pu_callV (v := G (i + 1)) (As := [.int (iI ((i) + (1)))]) (rest := [.int (iI (F (i + 1))), .int (iI (i)), .ref x0]) CP_mv ⟨hx, hb, hml, hown, hts⟩ (c_markAt l D cI base st Z x0 x1 x2 x5 x6 x7 hn (i + 1) (by omega) _ ((hFb (i + 1) (by omega) (by omega)).2.symm.trans (ma_in (by omega)))) (cwV 1 hts gX0_removeAt_X0_markAt rfl rfl rfl (by decide +kernel) ⟨(Nat.le_of_ble_eq_true rfl), (Nat.le_of_ble_eq_true rfl)⟩) hCP (CP_rc hCP) rfl rfl hl.1 (Nat.le_of_ble_eq_true rfl) dX0_removeAt_34 ⟨Nat.zero_le _, Nat.zero_le _⟩ ?_
          have hCP : CP D cI base st Z x0 x1 x2 x5 x6 x7 (n) (came) (MV) (F2) (G2) (SP) (RF) (RC) s H := ⟨hSW0.behind hbl hmb hS, ⟨f, g, sp, rf, rc, hAf, hAg, hAsp, hArf, hArc, hP, hD.weaken (fun _ _ _ h => hmb _ h)⟩⟩
          refine mu_callV (As := [.int (iI (i)), .int (iI (F (i + 1))), .int (iI (G (i + 1)))]) (rest := []) CP_mv ⟨hx, hb, hml, hown, hts⟩ (c_set l D cI base st Z x0 x1 x2 x5 x6 x7 hn i (by omega) (F (i + 1)) (G (i + 1))) (cwV 3 hts gX0_removeAt_X0_set rfl rfl rfl (by decide +kernel) ⟨(Nat.le_of_ble_eq_true rfl), (Nat.le_of_ble_eq_true rfl)⟩) hCP (CP_rc hCP) rfl rfl hl.1 (Nat.le_of_ble_eq_true rfl) dX0_removeAt_37 ⟨Nat.zero_le _, Nat.zero_le _⟩ hS (fun _ h => h) (fun H locs hC9 hz9 hk9 hS => ?_)
          have hC9 : CW D cI base x0 x1 x2 x5 x6 x7 (n) (came) (MV) (uI F2 i (F (i + 1))) (uI G2 i (G (i + 1))) (SP) (RF) (RC) H := hC9
          obtain ⟨f, g, sp, rf, rc, hAf, hAg, hAsp, hArf, hArc, hP, hDb⟩ := hC9
          have hD := CW_mD hDb
          refine pv_iinc (lv' := [(2, .int (iI (i + 1))), (0, .ref x0), (1, .int (iI (q)))]) hx hb dX0_removeAt_40 hl (k := 2) rfl (by decide) rfl (fun ls hl => ?_)
          refine lv_goto (tgt := 11) hx hb dX0_removeAt_43 (by decide) ?_
          exact ih (i + 1) (_) (_) _ _ ls (by omega) (by omega) (fun k h0 h1 => by unfold uI; rcases (show k = i ∨ k < i by omega) with z | z; (rw [if_pos z, if_pos z, z]; unfold remF; rw [if_neg (by omega), if_neg (by omega)]; exact ⟨rfl, rfl⟩); (rw [if_neg (by omega), if_neg (by omega)]; exact hFa k h0 z)) (fun k h0 h1 => by unfold uI; rw [if_neg (by omega), if_neg (by omega)]; exact hFb k (by omega) h1) ⟨f, g, sp, rf, rc, hAf, hAg, hAsp, hArf, hArc, hP, hD.weaken (fun _ _ _ h => hmb _ h)⟩ hS (lv_sub hl [1, 2, 0] rfl)
    exact hloop11 ((n : Int).toNat + 1) (q) (F) (G) _ _ ls (by omega) (by omega) (fun k h0 h1 => by unfold remF; rw [if_pos h1, if_pos h1]; exact ⟨rfl, rfl⟩) (fun k h0 h1 => ⟨rfl, rfl⟩) ⟨f, g, sp, rf, rc, hAf, hAg, hAsp, hArf, hArc, hP, hD.weaken (fun _ _ _ h => hmb _ h)⟩ hS (lv_sub hl [1, 2, 0] rfl)
  · exact absurd c_5 (by omega)
set_option maxHeartbeats 4000000 in
set_option maxRecDepth 100000 in
theorem c_nextNumber (l : Launch) (D : va_G) (cI : ClassId) (base st : Nat) (Z : Nat → Nat) (x0 x1 x2 x5 x6 x7 : Nat) {n came MV : Int} {F G SP RF RC : Int → Int}  : mu_M l yX0_nextNumber wsX0_nextNumber ({ frames := 0, cells := 0, slots := 0, locals := 0 } : Room) [.ref x0] (CP D cI base st Z x0 x1 x2 x5 x6 x7 n came MV F G SP RF RC) (some (.int (iI came))) ((fun H => CW D cI base x0 x1 x2 x5 x6 x7 (n) (came + 1) (MV) (F) (G) (SP) (RF) (RC) H)) (mC x0 x1 x2 x5 x6 x7) := by
  refine mu_of (cc := cX0_nextNumber) (maxL := 2) (ret := (some .int)) (own := RX0) (by decide) rfl rfl (Nat.le_of_ble_eq_true rfl) ?_
  intro p e s m below meth c ls B hCP hl hS
  obtain ⟨hx, hb, hml, hr, hts, hown, hlocks⟩ := B
  obtain ⟨⟨hK, hZL, ⟨hstb, xs, hXL, hAL⟩, hTW⟩, f, g, sp, rf, rc, hAf, hAg, hAsp, hArf, hArc, hP, hDb⟩ := id hCP
  have hD := CW_mD hDb
  have hmb := mC_b hDb
  have hbl := CW_lt hCP.2
  have hSW0 := hCP.1
  have hl : lv_has ls 2 [(0, .ref x0)] := hl
  have hin : ∀ w ∈ u_ws RX0 TX0 8, w ∈ wsX0_nextNumber := by decide +kernel
  have q_came := hts (.fieldLink RX0 106 "ShelfMarks" "came" "I") (by decide +kernel)
  refine lv_aload_n hx hb dX0_nextNumber_0 rfl (lv_at hl 0 rfl) ?_
  refine va_get (D := D) (ci := 0) (v := .int (iI (came))) (C := RX0) (T := TX0) (N := 8) hx hb hts hin hown hK hP 0 rfl rfl 3 (by decide) q_came (fun _ h9 => h9) rfl dX0_nextNumber_1 ?_
  refine lv_istore_n (lv' := [(1, .int (iI (came))), (0, .ref x0)]) hx hb dX0_nextNumber_4 rfl hl (by decide) rfl (fun ls hl => ?_)
  refine lv_aload_n hx hb dX0_nextNumber_5 rfl (lv_at hl 1 rfl) ?_
  refine lv_dup hx hb dX0_nextNumber_6 rfl ?_
  refine va_get (D := D) (ci := 0) (v := .int (iI (came))) (C := RX0) (T := TX0) (N := 8) hx hb hts hin hown hK hP 0 rfl rfl 3 (by decide) q_came (fun _ h9 => h9) rfl dX0_nextNumber_7 ?_
  refine pv_iconst hx hb dX0_nextNumber_10 ?_
  refine pv_iadd hx hb dX0_nextNumber_11 ?_
  refine va_put (D := D) (ci := 0) (v := .int (iI ((came) + (1)))) (ty := .int) (C := RX0) (T := TX0) (N := 8) hx hb hts hin tyX0 tyX0_ok nmX0 hown hK hP hD hS 0 rfl rfl 3 (by decide) q_came (fun _ h9 => h9) rfl (by decide +kernel) rfl rfl (Nat.le_of_ble_eq_true rfl) dX0_nextNumber_12 (fun H locs hP hD hS => ?_)
  have hP : va_P D vwCl (W0 cI x0 x1 x2 x5 x6 x7 (n) ((came) + (1)) (MV) f g sp rf rc) H := hP
  have hD : va_D (mC x0 x1 x2 x5 x6 x7) (W0 cI x0 x1 x2 x5 x6 x7 (n) ((came) + (1)) (MV) f g sp rf rc) := hD
  refine lv_iload_n hx hb dX0_nextNumber_15 rfl (lv_at hl 0 rfl) ?_
  exact mu_iret hx hb hr hlocks hS dX0_nextNumber_16 (by rfl) ⟨f, g, sp, rf, rc, hAf, hAg, hAsp, hArf, hArc, hP, hD.weaken (fun _ _ _ h => hmb _ h)⟩
set_option maxHeartbeats 4000000 in
set_option maxRecDepth 100000 in
theorem c_countSpread (l : Launch) (D : va_G) (cI : ClassId) (base st : Nat) (Z : Nat → Nat) (x0 x1 x2 x5 x6 x7 : Nat) {n came MV : Int} {F G SP RF RC : Int → Int} (lv : Int) (hlv : 0 ≤ lv ∧ lv ≤ 8) : mu_M l yX0_countSpread wsX0_countSpread ({ frames := 0, cells := 0, slots := 0, locals := 0 } : Room) [.ref x0, .int (iI (lv))] (CP D cI base st Z x0 x1 x2 x5 x6 x7 n came MV F G SP RF RC) none ((fun H => CW D cI base x0 x1 x2 x5 x6 x7 (n) (came) (MV) (F) (G) (uI SP lv (SP lv + 1)) (RF) (RC) H)) (mC x0 x1 x2 x5 x6 x7) := by
  refine mu_of (cc := cX0_countSpread) (maxL := 2) (ret := none) (own := RX0) (by decide) rfl rfl (Nat.le_of_ble_eq_true rfl) ?_
  intro p e s m below meth c ls B hCP hl hS
  obtain ⟨hx, hb, hml, hr, hts, hown, hlocks⟩ := B
  obtain ⟨⟨hK, hZL, ⟨hstb, xs, hXL, hAL⟩, hTW⟩, f, g, sp, rf, rc, hAf, hAg, hAsp, hArf, hArc, hP, hDb⟩ := id hCP
  have hD := CW_mD hDb
  have hmb := mC_b hDb
  have hbl := CW_lt hCP.2
  have hSW0 := hCP.1
  have hl : lv_has ls 2 [(0, .ref x0), (1, .int (iI (lv)))] := hl
  have hin : ∀ w ∈ u_ws RX0 TX0 8, w ∈ wsX0_countSpread := by decide +kernel
  have q_spreads := hts (.fieldLink RX0 19 "ShelfMarks" "spreads" "[I") (by decide +kernel)
  refine lv_iload_n hx hb dX0_countSpread_0 rfl (lv_at hl 1 rfl) ?_
  refine pv_if_lt (tgt := 23) hx hb dX0_countSpread_1 (by decide) (by omega) (fun c_1 => ?_) (fun c_1 => ?_)
  · exfalso; omega
  · -- 1f
    refine lv_iload_n hx hb dX0_countSpread_4 rfl (lv_at hl 1 rfl) ?_
    refine lv_aload_n hx hb dX0_countSpread_5 rfl (lv_at hl 0 rfl) ?_
    refine va_get (D := D) (ci := 0) (v := .ref x5) (C := RX0) (T := TX0) (N := 8) hx hb hts hin hown hK hP 0 rfl rfl 5 (by decide) q_spreads (fun _ h9 => h9) rfl dX0_countSpread_6 ?_
    refine pv_alen (v := 9) hx hb hK hP 3 0 rfl rfl (show Int32.ofNat 9 = iI 9 by decide +kernel) dX0_countSpread_9 ?_
    refine pv_icmp_ge (tgt := 23) hx hb dX0_countSpread_10 (by decide) (by omega) (fun c_10 => ?_) (fun c_10 => ?_)
    · exfalso; omega
    · -- 10f
      refine lv_aload_n hx hb dX0_countSpread_13 rfl (lv_at hl 0 rfl) ?_
      refine va_get (D := D) (ci := 0) (v := .ref x5) (C := RX0) (T := TX0) (N := 8) hx hb hts hin hown hK hP 0 rfl rfl 5 (by decide) q_spreads (fun _ h9 => h9) rfl dX0_countSpread_14 ?_
      refine lv_iload_n hx hb dX0_countSpread_17 rfl (lv_at hl 1 rfl) ?_
      refine lv_dup2_11 hx hb dX0_countSpread_18 rfl rfl ?_
      refine pv_iald (i := lv) (v := SP (lv)) hx hb hK hP 3 0 rfl rfl (by omega) (by decide) (hAsp _ (by omega) (by omega)) dX0_countSpread_19 ?_
      refine pv_iconst hx hb dX0_countSpread_20 ?_
      refine pv_iadd hx hb dX0_countSpread_21 ?_
      refine pv_iast (i := lv) (v := (SP (lv)) + (1)) hx hb hK hP hD hS 3 0 rfl rfl (by omega) (by decide) dX0_countSpread_22 (fun H locs hP hD hS => ?_)
      have hP : va_P D vwCl (W0 cI x0 x1 x2 x5 x6 x7 (n) (came) (MV) f g (upd sp (lv).toNat (iI ((SP (lv)) + (1)))) rf rc) H := hP
      have hD : va_D (mC x0 x1 x2 x5 x6 x7) (W0 cI x0 x1 x2 x5 x6 x7 (n) (came) (MV) f g (upd sp (lv).toNat (iI ((SP (lv)) + (1)))) rf rc) := hD
      have hAsp := AR_up (k := lv) (v := (SP (lv)) + (1)) hAsp (by omega)
      generalize upd sp (lv).toNat (iI ((SP (lv)) + (1))) = sp at hP hD hAsp
      exact mu_vret hx hb hr hlocks hS dX0_countSpread_23 ⟨f, g, sp, rf, rc, hAf, hAg, hAsp, hArf, hArc, hP, hD.weaken (fun _ _ _ h => hmb _ h)⟩
set_option maxHeartbeats 4000000 in
set_option maxRecDepth 100000 in
theorem c_sendReadersOn (l : Launch) (D : va_G) (cI : ClassId) (base st : Nat) (Z : Nat → Nat) (x0 x1 x2 x5 x6 x7 : Nat) {n came MV : Int} {F G SP RF RC : Int → Int} (hRF : ∀ k : Int, 0 ≤ k → k < 4 → -1 ≤ RF k ∧ RF k < 200) (x nx : Int) (hxr : 0 ≤ x ∧ x < 200) : mu_M l yX0_sendReadersOn wsX0_sendReadersOn ({ frames := 0, cells := 0, slots := 0, locals := 0 } : Room) [.ref x0, .int (iI (x)), .int (iI (nx))] (CP D cI base st Z x0 x1 x2 x5 x6 x7 n came MV F G SP RF RC) none ((fun H => CW D cI base x0 x1 x2 x5 x6 x7 (n) (came) (MV) (F) (G) (SP) (sendF RF x nx) (RC) H)) (mC x0 x1 x2 x5 x6 x7) := by
  refine mu_of (cc := cX0_sendReadersOn) (maxL := 4) (ret := none) (own := RX0) (by decide) rfl rfl (Nat.le_of_ble_eq_true rfl) ?_
  intro p e s m below meth c ls B hCP hl hS
  obtain ⟨hx, hb, hml, hr, hts, hown, hlocks⟩ := B
  obtain ⟨⟨hK, hZL, ⟨hstb, xs, hXL, hAL⟩, hTW⟩, f, g, sp, rf, rc, hAf, hAg, hAsp, hArf, hArc, hP, hDb⟩ := id hCP
  have hD := CW_mD hDb
  have hmb := mC_b hDb
  have hbl := CW_lt hCP.2
  have hSW0 := hCP.1
  have hl : lv_has ls 4 [(0, .ref x0), (1, .int (iI (x))), (2, .int (iI (nx)))] := hl
  have hin : ∀ w ∈ u_ws RX0 TX0 8, w ∈ wsX0_sendReadersOn := by decide +kernel
  have q_readerFolders := hts (.fieldLink RX0 22 "ShelfMarks" "readerFolders" "[I") (by decide +kernel)
  refine pv_iconst hx hb dX0_sendReadersOn_0 ?_
  refine lv_istore_n (lv' := [(3, .int (iI (0))), (0, .ref x0), (1, .int (iI (x))), (2, .int (iI (nx)))]) hx hb dX0_sendReadersOn_1 rfl hl (by decide) rfl (fun ls hl => ?_)
  have hloop2 : ∀ (fuel : Nat) (i : Int) (R2 : Int → Int) (H : Heap) (locs : List Loc) (ls : Array Slot), (4 - i) < fuel → (0 ≤ i ∧ i ≤ 4) → (∀ k : Int, 0 ≤ k → k < i → R2 k = sendF RF x nx k) → (∀ k : Int, i ≤ k → k < 4 → R2 k = RF k) → CW D cI base x0 x1 x2 x5 x6 x7 (n) (came) (MV) (F) (G) (SP) (R2) (RC) H → va_S (mC x0 x1 x2 x5 x6 x7) s.heap H locs → lv_has ls 4 [(0, .ref x0), (1, .int (iI (x))), (2, .int (iI (nx))), (3, .int (iI (i)))] → W p l e ({ frames := 0, cells := 0, slots := 0, locals := 0 } : Room) s m ([.ref x0, .int (iI (x)), .int (iI (nx))] : List Value).toArray below meth c H locs 0 0 (MQ below (mu_Q none ((fun H => CW D cI base x0 x1 x2 x5 x6 x7 (n) (came) (MV) (F) (G) (SP) (sendF RF x nx) (RC) H)) (mC x0 x1 x2 x5 x6 x7)) ([.ref x0, .int (iI (x)), .int (iI (nx))] : List Value).toArray s 0 0 (mC x0 x1 x2 x5 x6 x7)) (F0 m 2 ls []) := by
    intro fuel
    induction fuel with
    | zero => intro i R2 H locs ls hfu hi hRa hRb hC9 hS hl; exfalso; omega
    | succ fuel ih =>
      intro i R2 H locs ls hfu hi hRa hRb hC9 hS hl
      obtain ⟨f, g, sp, rf, rc, hAf, hAg, hAsp, hArf, hArc, hP, hDb⟩ := hC9
      have hD := CW_mD hDb
      refine lv_iload_n hx hb dX0_sendReadersOn_2 rfl (lv_at hl 3 rfl) ?_
      refine pv_iconst hx hb dX0_sendReadersOn_3 ?_
      refine pv_icmp_ge (tgt := 30) hx hb dX0_sendReadersOn_4 (by decide) (by omega) (fun c_4 => ?_) (fun c_4 => ?_)
      · -- 4t
        exact mu_vret hx hb hr hlocks hS dX0_sendReadersOn_30 ⟨f, g, sp, rf, rc, hAf, hAg, hAsp, AR_to hArf (Int.le_refl _) (fun k h0 h1 => hRa k h0 (by omega)), hArc, hP, hD.weaken (fun _ _ _ h => hmb _ h)⟩
      · -- 4f
        refine lv_aload_n hx hb dX0_sendReadersOn_7 rfl (lv_at hl 0 rfl) ?_
        refine va_get (D := D) (ci := 0) (v := .ref x6) (C := RX0) (T := TX0) (N := 8) hx hb hts hin hown hK hP 0 rfl rfl 6 (by decide) q_readerFolders (fun _ h9 => h9) rfl dX0_sendReadersOn_8 ?_
        refine lv_iload_n hx hb dX0_sendReadersOn_11 rfl (lv_at hl 3 rfl) ?_
        refine pv_iald (i := i) (v := RF (i)) hx hb hK hP 4 0 rfl rfl (by omega) (by decide) ((hArf _ (by omega) (by omega)).trans (congrArg iI (hRb i (by omega) (by omega)))) dX0_sendReadersOn_12 ?_
        have hri := hRF i (by omega) (by omega)
        refine lv_iload_n hx hb dX0_sendReadersOn_13 rfl (lv_at hl 1 rfl) ?_
        refine pv_icmp_ne (tgt := 24) hx hb dX0_sendReadersOn_14 (by decide) (by omega) (fun c_14 => ?_) (fun c_14 => ?_)
        · -- 14t
          refine pv_iinc (lv' := [(3, .int (iI (i + 1))), (0, .ref x0), (1, .int (iI (x))), (2, .int (iI (nx)))]) hx hb dX0_sendReadersOn_24 hl (k := 3) rfl (by decide) rfl (fun ls hl => ?_)
          refine lv_goto (tgt := 2) hx hb dX0_sendReadersOn_27 (by decide) ?_
          exact ih (i + 1) (_) _ _ ls (by omega) (by omega) (fun k h0 h1 => by rcases (show k = i ∨ k < i by omega) with z | z; (unfold sendF; rw [z, if_neg c_14]; exact hRb i (by omega) (by omega)); exact hRa k h0 z) (fun k h0 h1 => hRb k (by omega) h1) ⟨f, g, sp, rf, rc, hAf, hAg, hAsp, hArf, hArc, hP, hD.weaken (fun _ _ _ h => hmb _ h)⟩ hS (lv_sub hl [1, 2, 3, 0] rfl)
        · -- 14f
          refine lv_aload_n hx hb dX0_sendReadersOn_17 rfl (lv_at hl 0 rfl) ?_
          refine va_get (D := D) (ci := 0) (v := .ref x6) (C := RX0) (T := TX0) (N := 8) hx hb hts hin hown hK hP 0 rfl rfl 6 (by decide) q_readerFolders (fun _ h9 => h9) rfl dX0_sendReadersOn_18 ?_
          refine lv_iload_n hx hb dX0_sendReadersOn_21 rfl (lv_at hl 3 rfl) ?_
          refine lv_iload_n hx hb dX0_sendReadersOn_22 rfl (lv_at hl 2 rfl) ?_
          refine pv_iast (i := i) (v := nx) hx hb hK hP hD hS 4 0 rfl rfl (by omega) (by decide) dX0_sendReadersOn_23 (fun H locs hP hD hS => ?_)
          have hP : va_P D vwCl (W0 cI x0 x1 x2 x5 x6 x7 (n) (came) (MV) f g sp (upd rf (i).toNat (iI (nx))) rc) H := hP
          have hD : va_D (mC x0 x1 x2 x5 x6 x7) (W0 cI x0 x1 x2 x5 x6 x7 (n) (came) (MV) f g sp (upd rf (i).toNat (iI (nx))) rc) := hD
          have hArf := AR_up (k := i) (v := nx) hArf (by omega)
          generalize upd rf (i).toNat (iI (nx)) = rf at hP hD hArf
          refine pv_iinc (lv' := [(3, .int (iI (i + 1))), (0, .ref x0), (1, .int (iI (x))), (2, .int (iI (nx)))]) hx hb dX0_sendReadersOn_24 hl (k := 3) rfl (by decide) rfl (fun ls hl => ?_)
          refine lv_goto (tgt := 2) hx hb dX0_sendReadersOn_27 (by decide) ?_
          exact ih (i + 1) (_) _ _ ls (by omega) (by omega) (fun k h0 h1 => by unfold uI; rcases (show k = i ∨ k < i by omega) with z | z; (rw [if_pos z, z]; unfold sendF; rw [if_pos c_14]); (rw [if_neg (by omega)]; exact hRa k h0 z)) (fun k h0 h1 => by unfold uI; rw [if_neg (by omega)]; exact hRb k (by omega) h1) ⟨f, g, sp, rf, rc, hAf, hAg, hAsp, hArf, hArc, hP, hD.weaken (fun _ _ _ h => hmb _ h)⟩ hS (lv_sub hl [1, 2, 3, 0] rfl)
  exact hloop2 ((4 : Int).toNat + 1) (0) (RF) _ _ ls (by omega) (by omega) (fun k h0 h1 => absurd h1 (by omega)) (fun k h0 h1 => rfl) ⟨f, g, sp, rf, rc, hAf, hAg, hAsp, hArf, hArc, hP, hD.weaken (fun _ _ _ h => hmb _ h)⟩ hS (lv_sub hl [1, 2, 3, 0] rfl)
set_option maxHeartbeats 4000000 in
set_option maxRecDepth 100000 in
theorem c_spreadOut (l : Launch) (D : va_G) (cI : ClassId) (base st : Nat) (Z : Nat → Nat) (x0 x1 x2 x5 x6 x7 : Nat) {n came MV : Int} {F G SP RF RC : Int → Int} (hn : 0 ≤ n ∧ n < 60) (hG : ∀ k : Int, 0 ≤ k → k < n → 0 ≤ G k ∧ G k ≤ 255) (hs : SD G n) (fo q : Int) (hq : 0 ≤ q ∧ q ≤ n) (lv : Int) (hlv : LV G n (A0 G n q) lv) : mu_M l yX0_spreadOut wsX0_spreadOut ({ frames := 4, cells := 0, slots := 0, locals := 89 } : Room) [.ref x0, .int (iI (fo)), .int (iI (q))] (CP D cI base st Z x0 x1 x2 x5 x6 x7 n came MV F G SP RF RC) none ((fun H => CW D cI base x0 x1 x2 x5 x6 x7 (n + 1) (came) (MV) (insF F q fo) (spG G (A0 G n q / 2 ^ lv.toNat * 2 ^ lv.toNat) (2 ^ lv.toNat) (mb G n (A0 G n q / 2 ^ lv.toNat * 2 ^ lv.toNat)) (ldn G n lv (A0 G n q / 2 ^ lv.toNat) + 1)) (uI SP lv (SP lv + 1)) (RF) (RC) H)) (mC x0 x1 x2 x5 x6 x7) := by
  refine mu_of (cc := cX0_spreadOut) (maxL := 8) (ret := none) (own := RX0) (by decide) rfl rfl (Nat.le_of_ble_eq_true rfl) ?_
  intro p e s m below meth c ls B hCP hl hS
  obtain ⟨hx, hb, hml, hr, hts, hown, hlocks⟩ := B
  obtain ⟨⟨hK, hZL, ⟨hstb, xs, hXL, hAL⟩, hTW⟩, f, g, sp, rf, rc, hAf, hAg, hAsp, hArf, hArc, hP, hDb⟩ := id hCP
  have hD := CW_mD hDb
  have hmb := mC_b hDb
  have hbl := CW_lt hCP.2
  have hSW0 := hCP.1
  have hl : lv_has ls 8 [(0, .ref x0), (1, .int (iI (fo))), (2, .int (iI (q)))] := hl
  refine lv_aload_n hx hb dX0_spreadOut_0 rfl (lv_at hl 0 rfl) ?_
  refine lv_iload_n hx hb dX0_spreadOut_1 rfl (lv_at hl 2 rfl) ?_
  have hn6 : 0 ≤ n ∧ n ≤ 60 := by omega
  have har := A0_rg hG hq
  have hlv1 := hlv.1
  have hsb := sh_b (lv := lv) har (by omega)
  have hp2 := p2_rg (lv := lv) (by omega)
  have hbq := bg_q (lv := lv) hn6 hG hs hq (by omega)
  have hCP : CP D cI base st Z x0 x1 x2 x5 x6 x7 (n) (came) (MV) (F) (G) (SP) (RF) (RC) s s.heap := ⟨hSW0.behind hbl hmb hS, ⟨f, g, sp, rf, rc, hAf, hAg, hAsp, hArf, hArc, hP, hD.weaken (fun _ _ _ h => hmb _ h)⟩⟩
  refine pu_callV (v := lv) (As := [.int (iI (q))]) (rest := []) CP_mv ⟨hx, hb, hml, hown, hts⟩ (c_levelToSpread l D cI base st Z x0 x1 x2 x5 x6 x7 hn6 hG hs q hq _ rfl har lv hlv) (cwV 1 hts gX0_spreadOut_X0_levelToSpread rfl rfl rfl (by decide +kernel) ⟨(Nat.le_of_ble_eq_true rfl), (Nat.le_of_ble_eq_true rfl)⟩) hCP (CP_rc hCP) rfl rfl hl.1 (Nat.le_of_ble_eq_true rfl) dX0_spreadOut_2 ⟨Nat.zero_le _, Nat.zero_le _⟩ ?_
  refine lv_istore_n (lv' := [(3, .int (iI (lv))), (0, .ref x0), (1, .int (iI (fo))), (2, .int (iI (q)))]) hx hb dX0_spreadOut_5 rfl hl (by decide) rfl (fun ls hl => ?_)
  refine lv_aload_n hx hb dX0_spreadOut_6 rfl (lv_at hl 1 rfl) ?_
  refine lv_iload_n hx hb dX0_spreadOut_7 rfl (lv_at hl 3 rfl) ?_
  refine lv_iload_n hx hb dX0_spreadOut_8 rfl (lv_at hl 0 rfl) ?_
  have hCP : CP D cI base st Z x0 x1 x2 x5 x6 x7 (n) (came) (MV) (F) (G) (SP) (RF) (RC) s s.heap := ⟨hSW0.behind hbl hmb hS, ⟨f, g, sp, rf, rc, hAf, hAg, hAsp, hArf, hArc, hP, hD.weaken (fun _ _ _ h => hmb _ h)⟩⟩
  refine pu_callV (v := A0 G n q / 2 ^ lv.toNat) (As := [.int (iI (q)), .int (iI (lv))]) (rest := []) CP_mv ⟨hx, hb, hml, hown, hts⟩ (c_shelfToSpread l D cI base st Z x0 x1 x2 x5 x6 x7 hn6 hG q hq lv (by omega) _ rfl hq.2 _ rfl) (cwV 2 hts gX0_spreadOut_X0_shelfToSpread rfl rfl rfl (by decide +kernel) ⟨(Nat.le_of_ble_eq_true rfl), (Nat.le_of_ble_eq_true rfl)⟩) hCP (CP_rc hCP) rfl rfl hl.1 (Nat.le_of_ble_eq_true rfl) dX0_spreadOut_9 ⟨Nat.zero_le _, Nat.zero_le _⟩ ?_
  obtain ⟨sh, hsh9⟩ : ∃ z, z = A0 G n q / 2 ^ lv.toNat := ⟨_, rfl⟩
  rw [← hsh9] at hsb hbq
  rw [show iI (A0 G n q / 2 ^ lv.toNat) = iI (sh) from congrArg iI (hsh9.symm)]
  refine lv_istore (lv' := [(4, .int (iI (sh))), (3, .int (iI (lv))), (0, .ref x0), (1, .int (iI (fo))), (2, .int (iI (q)))]) hx hb dX0_spreadOut_12 hl (by decide) rfl (fun ls hl => ?_)
  refine lv_aload_n hx hb dX0_spreadOut_14 rfl (lv_at hl 2 rfl) ?_
  refine lv_iload_n hx hb dX0_spreadOut_15 rfl (lv_at hl 1 rfl) ?_
  refine lv_iload hx hb dX0_spreadOut_16 (lv_at hl 0 rfl) ?_
  refine pu_callS (v := sh * 2 ^ lv.toNat) (As := [.int (iI (lv)), .int (iI (sh))]) (rest := [.ref x0]) TP_mv ⟨hx, hb, hml, hown, hts⟩ (c_firstMark l lv sh (by omega) (by omega) (by omega) _ rfl) (va_cwS 2 hts gX0_spreadOut_X0_firstMark rfl rfl rfl (by decide +kernel) ⟨(Nat.le_of_ble_eq_true rfl), (Nat.le_of_ble_eq_true rfl)⟩) trivial rfl rfl hl.1 (Nat.le_of_ble_eq_true rfl) dX0_spreadOut_18 ⟨Nat.zero_le _, Nat.zero_le _⟩ ?_
  have hCP : CP D cI base st Z x0 x1 x2 x5 x6 x7 (n) (came) (MV) (F) (G) (SP) (RF) (RC) s s.heap := ⟨hSW0.behind hbl hmb hS, ⟨f, g, sp, rf, rc, hAf, hAg, hAsp, hArf, hArc, hP, hD.weaken (fun _ _ _ h => hmb _ h)⟩⟩
  refine pu_callV (v := mb G n (sh * 2 ^ lv.toNat)) (As := [.int (iI (sh * 2 ^ lv.toNat))]) (rest := []) CP_mv ⟨hx, hb, hml, hown, hts⟩ (c_marksBelow l D cI base st Z x0 x1 x2 x5 x6 x7 hn6 hG _ (by omega) _ (mb_FI _ hn.1 hs)) (cwV 1 hts gX0_spreadOut_X0_marksBelow rfl rfl rfl (by decide +kernel) ⟨(Nat.le_of_ble_eq_true rfl), (Nat.le_of_ble_eq_true rfl)⟩) hCP (CP_rc hCP) rfl rfl hl.1 (Nat.le_of_ble_eq_true rfl) dX0_spreadOut_21 ⟨Nat.zero_le _, Nat.zero_le _⟩ ?_
  obtain ⟨bg, hbg⟩ : ∃ z, z = mb G n (sh * 2 ^ lv.toNat) := ⟨_, rfl⟩
  have hbgr := mb_rg (G := G) (m := sh * 2 ^ lv.toNat) hn.1
  have hend := ldn_end (G := G) (lv := lv) (sh := sh) hn6
  rw [← hbg] at hbgr hend hbq
  rw [show iI (mb G n (sh * 2 ^ lv.toNat)) = iI (bg) from congrArg iI (hbg.symm)]
  refine lv_istore (lv' := [(5, .int (iI (bg))), (4, .int (iI (sh))), (3, .int (iI (lv))), (0, .ref x0), (1, .int (iI (fo))), (2, .int (iI (q)))]) hx hb dX0_spreadOut_24 hl (by decide) rfl (fun ls hl => ?_)
  refine lv_aload_n hx hb dX0_spreadOut_26 rfl (lv_at hl 3 rfl) ?_
  refine lv_iload_n hx hb dX0_spreadOut_27 rfl (lv_at hl 2 rfl) ?_
  refine lv_iload hx hb dX0_spreadOut_28 (lv_at hl 1 rfl) ?_
  have hCP : CP D cI base st Z x0 x1 x2 x5 x6 x7 (n) (came) (MV) (F) (G) (SP) (RF) (RC) s s.heap := ⟨hSW0.behind hbl hmb hS, ⟨f, g, sp, rf, rc, hAf, hAg, hAsp, hArf, hArc, hP, hD.weaken (fun _ _ _ h => hmb _ h)⟩⟩
  refine pu_callV (v := ldn G n lv sh) (As := [.int (iI (lv)), .int (iI (sh))]) (rest := []) CP_mv ⟨hx, hb, hml, hown, hts⟩ (c_foldersOn l D cI base st Z x0 x1 x2 x5 x6 x7 hn6 hG hs lv sh (by omega) (by omega) ⟨by omega, by omega, by omega, by omega⟩ _ rfl) (cwV 2 hts gX0_spreadOut_X0_foldersOn rfl rfl rfl (by decide +kernel) ⟨(Nat.le_of_ble_eq_true rfl), (Nat.le_of_ble_eq_true rfl)⟩) hCP (CP_rc hCP) rfl rfl hl.1 (Nat.le_of_ble_eq_true rfl) dX0_spreadOut_30 ⟨Nat.zero_le _, Nat.zero_le _⟩ ?_
  have hldr := ldn_rg (lv := lv) (sh := sh) hn6 hs (by omega)
  obtain ⟨ct, hct⟩ : ∃ z, z = ldn G n lv sh := ⟨_, rfl⟩
  rw [← hct] at hldr hend hbq
  refine pv_iconst hx hb dX0_spreadOut_33 ?_
  refine pv_iadd hx hb dX0_spreadOut_34 ?_
  rw [show iI ((ldn G n lv sh) + (1)) = iI (ct + 1) from congrArg iI ((by omega))]
  refine lv_istore (lv' := [(6, .int (iI (ct + 1))), (5, .int (iI (bg))), (4, .int (iI (sh))), (3, .int (iI (lv))), (0, .ref x0), (1, .int (iI (fo))), (2, .int (iI (q)))]) hx hb dX0_spreadOut_35 hl (by decide) rfl (fun ls hl => ?_)
  refine lv_aload_n hx hb dX0_spreadOut_37 rfl (lv_at hl 4 rfl) ?_
  refine lv_iload_n hx hb dX0_spreadOut_38 rfl (lv_at hl 6 rfl) ?_
  refine lv_iload_n hx hb dX0_spreadOut_39 rfl (lv_at hl 5 rfl) ?_
  refine lv_iload_n hx hb dX0_spreadOut_40 rfl (lv_at hl 3 rfl) ?_
  refine lv_iload hx hb dX0_spreadOut_41 (lv_at hl 2 rfl) ?_
  refine pu_callS (v := sh * 2 ^ lv.toNat) (As := [.int (iI (lv)), .int (iI (sh))]) (rest := [.int (iI (fo)), .int (iI (q)), .ref x0]) TP_mv ⟨hx, hb, hml, hown, hts⟩ (c_firstMark l lv sh (by omega) (by omega) (by omega) _ rfl) (va_cwS 2 hts gX0_spreadOut_X0_firstMark rfl rfl rfl (by decide +kernel) ⟨(Nat.le_of_ble_eq_true rfl), (Nat.le_of_ble_eq_true rfl)⟩) trivial rfl rfl hl.1 (Nat.le_of_ble_eq_true rfl) dX0_spreadOut_43 ⟨Nat.zero_le _, Nat.zero_le _⟩ ?_
  have hCP : CP D cI base st Z x0 x1 x2 x5 x6 x7 (n) (came) (MV) (F) (G) (SP) (RF) (RC) s s.heap := ⟨hSW0.behind hbl hmb hS, ⟨f, g, sp, rf, rc, hAf, hAg, hAsp, hArf, hArc, hP, hD.weaken (fun _ _ _ h => hmb _ h)⟩⟩
  refine mu_callV (As := [.int (iI (q)), .int (iI (fo)), .int (iI (sh * 2 ^ lv.toNat))]) (rest := []) CP_mv ⟨hx, hb, hml, hown, hts⟩ (c_insertAt l D cI base st Z x0 x1 x2 x5 x6 x7 hn q hq fo (sh * 2 ^ lv.toNat)) (cwV 3 hts gX0_spreadOut_X0_insertAt rfl rfl rfl (by decide +kernel) ⟨(Nat.le_of_ble_eq_true rfl), (Nat.le_of_ble_eq_true rfl)⟩) hCP (CP_rc hCP) rfl rfl hl.1 (Nat.le_of_ble_eq_true rfl) dX0_spreadOut_46 ⟨Nat.zero_le _, Nat.zero_le _⟩ hS (fun _ h => h) (fun H locs hC9 hz9 hk9 hS => ?_)
  have hC9 : CW D cI base x0 x1 x2 x5 x6 x7 (n + 1) (came) (MV) (insF F q fo) (insF G q (sh * 2 ^ lv.toNat)) (SP) (RF) (RC) H := hC9
  obtain ⟨f, g, sp, rf, rc, hAf, hAg, hAsp, hArf, hArc, hP, hDb⟩ := hC9
  have hD := CW_mD hDb
  refine pv_iconst hx hb dX0_spreadOut_49 ?_
  refine lv_istore (lv' := [(7, .int (iI (0))), (6, .int (iI (ct + 1))), (5, .int (iI (bg))), (4, .int (iI (sh))), (3, .int (iI (lv))), (0, .ref x0), (1, .int (iI (fo))), (2, .int (iI (q)))]) hx hb dX0_spreadOut_50 hl (by decide) rfl (fun ls hl => ?_)
  have hloop52 : ∀ (fuel : Nat) (i : Int) (F2 : Int → Int) (G2 : Int → Int) (H : Heap) (locs : List Loc) (ls : Array Slot), (ct + 1 - i) < fuel → (0 ≤ i ∧ i ≤ ct + 1) → (∀ k : Int, 0 ≤ k → k < n + 1 → F2 k = insF F q fo k) → (∀ k : Int, 0 ≤ k → k < n + 1 → G2 k = if bg ≤ k ∧ k < bg + i then nm (sh * 2 ^ lv.toNat) (2 ^ lv.toNat) (ct + 1) (k - bg) else insF G q (sh * 2 ^ lv.toNat) k) → CW D cI base x0 x1 x2 x5 x6 x7 (n + 1) (came) (MV) (F2) (G2) (SP) (RF) (RC) H → va_S (mC x0 x1 x2 x5 x6 x7) s.heap H locs → lv_has ls 8 [(0, .ref x0), (1, .int (iI (fo))), (2, .int (iI (q))), (3, .int (iI (lv))), (4, .int (iI (sh))), (5, .int (iI (bg))), (6, .int (iI (ct + 1))), (7, .int (iI (i)))] → W p l e ({ frames := 4, cells := 0, slots := 0, locals := 89 } : Room) s m ([.ref x0, .int (iI (fo)), .int (iI (q))] : List Value).toArray below meth c H locs 0 0 (MQ below (mu_Q none ((fun H => CW D cI base x0 x1 x2 x5 x6 x7 (n + 1) (came) (MV) (insF F q fo) (spG G (A0 G n q / 2 ^ lv.toNat * 2 ^ lv.toNat) (2 ^ lv.toNat) (mb G n (A0 G n q / 2 ^ lv.toNat * 2 ^ lv.toNat)) (ldn G n lv (A0 G n q / 2 ^ lv.toNat) + 1)) (uI SP lv (SP lv + 1)) (RF) (RC) H)) (mC x0 x1 x2 x5 x6 x7)) ([.ref x0, .int (iI (fo)), .int (iI (q))] : List Value).toArray s 0 0 (mC x0 x1 x2 x5 x6 x7)) (F0 m 52 ls []) := by
    intro fuel
    induction fuel with
    | zero => intro i F2 G2 H locs ls hfu hi hFa hGa hC9 hS hl; exfalso; omega
    | succ fuel ih =>
      intro i F2 G2 H locs ls hfu hi hFa hGa hC9 hS hl
      obtain ⟨f, g, sp, rf, rc, hAf, hAg, hAsp, hArf, hArc, hP, hDb⟩ := hC9
      have hD := CW_mD hDb
      refine lv_iload hx hb dX0_spreadOut_52 (lv_at hl 7 rfl) ?_
      refine lv_iload hx hb dX0_spreadOut_54 (lv_at hl 6 rfl) ?_
      refine pv_icmp_ge (tgt := 93) hx hb dX0_spreadOut_56 (by decide) (by omega) (fun c_56 => ?_) (fun c_56 => ?_)
      · -- 56t
        refine lv_aload_n hx hb dX0_spreadOut_93 rfl (lv_at hl 0 rfl) ?_
        refine lv_iload_n hx hb dX0_spreadOut_94 rfl (lv_at hl 3 rfl) ?_
        have hCP : CP D cI base st Z x0 x1 x2 x5 x6 x7 (n + 1) (came) (MV) (F2) (G2) (SP) (RF) (RC) s H := ⟨hSW0.behind hbl hmb hS, ⟨f, g, sp, rf, rc, hAf, hAg, hAsp, hArf, hArc, hP, hD.weaken (fun _ _ _ h => hmb _ h)⟩⟩
        refine mu_callV (As := [.int (iI (lv))]) (rest := []) CP_mv ⟨hx, hb, hml, hown, hts⟩ (c_countSpread l D cI base st Z x0 x1 x2 x5 x6 x7 lv (by omega)) (cwV 1 hts gX0_spreadOut_X0_countSpread rfl rfl rfl (by decide +kernel) ⟨(Nat.le_of_ble_eq_true rfl), (Nat.le_of_ble_eq_true rfl)⟩) hCP (CP_rc hCP) rfl rfl hl.1 (Nat.le_of_ble_eq_true rfl) dX0_spreadOut_95 ⟨Nat.zero_le _, Nat.zero_le _⟩ hS (fun _ h => h) (fun H locs hC9 hz9 hk9 hS => ?_)
        have hC9 : CW D cI base x0 x1 x2 x5 x6 x7 (n + 1) (came) (MV) (F2) (G2) (uI SP lv (SP lv + 1)) (RF) (RC) H := hC9
        obtain ⟨f, g, sp, rf, rc, hAf, hAg, hAsp, hArf, hArc, hP, hDb⟩ := hC9
        have hD := CW_mD hDb
        exact mu_vret hx hb hr hlocks hS dX0_spreadOut_98 ⟨f, g, sp, rf, rc, AR_to hAf (Int.le_refl _) hFa, AR_to hAg (Int.le_refl _) (by rw [← hsh9, ← hbg, ← hct]; exact sp_fin (n := n) (q := q) (by omega) (by omega : i = ct + 1) hGa), hAsp, hArf, hArc, hP, hD.weaken (fun _ _ _ h => hmb _ h)⟩
      · -- 56f
        refine lv_aload_n hx hb dX0_spreadOut_59 rfl (lv_at hl 0 rfl) ?_
        refine lv_iload hx hb dX0_spreadOut_60 (lv_at hl 5 rfl) ?_
        refine lv_iload hx hb dX0_spreadOut_62 (lv_at hl 7 rfl) ?_
        refine pv_iadd hx hb dX0_spreadOut_64 ?_
        refine lv_aload_n hx hb dX0_spreadOut_65 rfl (lv_at hl 0 rfl) ?_
        refine lv_iload hx hb dX0_spreadOut_66 (lv_at hl 5 rfl) ?_
        refine lv_iload hx hb dX0_spreadOut_68 (lv_at hl 7 rfl) ?_
        refine pv_iadd hx hb dX0_spreadOut_70 ?_
        have hCP : CP D cI base st Z x0 x1 x2 x5 x6 x7 (n + 1) (came) (MV) (F2) (G2) (SP) (RF) (RC) s H := ⟨hSW0.behind hbl hmb hS, ⟨f, g, sp, rf, rc, hAf, hAg, hAsp, hArf, hArc, hP, hD.weaken (fun _ _ _ h => hmb _ h)⟩⟩
        refine pu_callV (v := F2 (bg + i)) (As := [.int (iI ((bg) + (i)))]) (rest := [.int (iI ((bg) + (i))), .ref x0]) CP_mv ⟨hx, hb, hml, hown, hts⟩ (c_folderAt l D cI base st Z x0 x1 x2 x5 x6 x7 (by omega) (bg + i) (by omega) _ (by unfold fa; rw [if_pos (by omega)])) (cwV 1 hts gX0_spreadOut_X0_folderAt rfl rfl rfl (by decide +kernel) ⟨(Nat.le_of_ble_eq_true rfl), (Nat.le_of_ble_eq_true rfl)⟩) hCP (CP_rc hCP) rfl rfl hl.1 (Nat.le_of_ble_eq_true rfl) dX0_spreadOut_71 ⟨Nat.zero_le _, Nat.zero_le _⟩ ?_
        refine lv_iload_n hx hb dX0_spreadOut_74 rfl (lv_at hl 3 rfl) ?_
        refine lv_iload hx hb dX0_spreadOut_75 (lv_at hl 4 rfl) ?_
        refine lv_iload hx hb dX0_spreadOut_77 (lv_at hl 7 rfl) ?_
        refine lv_iload hx hb dX0_spreadOut_79 (lv_at hl 6 rfl) ?_
        refine pu_callS (v := nm (sh * 2 ^ lv.toNat) (2 ^ lv.toNat) (ct + 1) i) (As := [.int (iI (lv)), .int (iI (sh)), .int (iI (i)), .int (iI (ct + 1))]) (rest := [.int (iI (F2 (bg + i))), .int (iI ((bg) + (i))), .ref x0]) TP_mv ⟨hx, hb, hml, hown, hts⟩ (c_spreadMark l lv sh i (ct + 1) (by omega) (by omega) (by omega) (by omega) (by omega) _ rfl) (va_cwS 4 hts gX0_spreadOut_X0_spreadMark rfl rfl rfl (by decide +kernel) ⟨(Nat.le_of_ble_eq_true rfl), (Nat.le_of_ble_eq_true rfl)⟩) trivial rfl rfl hl.1 (Nat.le_of_ble_eq_true rfl) dX0_spreadOut_81 ⟨Nat.zero_le _, Nat.zero_le _⟩ ?_
        have hCP : CP D cI base st Z x0 x1 x2 x5 x6 x7 (n + 1) (came) (MV) (F2) (G2) (SP) (RF) (RC) s H := ⟨hSW0.behind hbl hmb hS, ⟨f, g, sp, rf, rc, hAf, hAg, hAsp, hArf, hArc, hP, hD.weaken (fun _ _ _ h => hmb _ h)⟩⟩
        refine mu_callV (As := [.int (iI ((bg) + (i))), .int (iI (F2 (bg + i))), .int (iI (nm (sh * 2 ^ lv.toNat) (2 ^ lv.toNat) (ct + 1) i))]) (rest := []) CP_mv ⟨hx, hb, hml, hown, hts⟩ (c_set l D cI base st Z x0 x1 x2 x5 x6 x7 (by omega) (bg + i) (by omega) (F2 (bg + i)) (nm (sh * 2 ^ lv.toNat) (2 ^ lv.toNat) (ct + 1) i)) (cwV 3 hts gX0_spreadOut_X0_set rfl rfl rfl (by decide +kernel) ⟨(Nat.le_of_ble_eq_true rfl), (Nat.le_of_ble_eq_true rfl)⟩) hCP (CP_rc hCP) rfl rfl hl.1 (Nat.le_of_ble_eq_true rfl) dX0_spreadOut_84 ⟨Nat.zero_le _, Nat.zero_le _⟩ hS (fun _ h => h) (fun H locs hC9 hz9 hk9 hS => ?_)
        have hC9 : CW D cI base x0 x1 x2 x5 x6 x7 (n + 1) (came) (MV) (uI F2 (bg + i) (F2 (bg + i))) (uI G2 (bg + i) (nm (sh * 2 ^ lv.toNat) (2 ^ lv.toNat) (ct + 1) i)) (SP) (RF) (RC) H := hC9
        obtain ⟨f, g, sp, rf, rc, hAf, hAg, hAsp, hArf, hArc, hP, hDb⟩ := hC9
        have hD := CW_mD hDb
        refine pv_iinc (lv' := [(7, .int (iI (i + 1))), (0, .ref x0), (1, .int (iI (fo))), (2, .int (iI (q))), (3, .int (iI (lv))), (4, .int (iI (sh))), (5, .int (iI (bg))), (6, .int (iI (ct + 1)))]) hx hb dX0_spreadOut_87 hl (k := 7) rfl (by decide) rfl (fun ls hl => ?_)
        refine lv_goto (tgt := 52) hx hb dX0_spreadOut_90 (by decide) ?_
        exact ih (i + 1) (_) (_) _ _ ls (by omega) (by omega) (fun k h0 h1 => by unfold uI; split; (rename_i z; rw [← z]; exact hFa k h0 h1); exact hFa k h0 h1) (fun k h0 h1 => by unfold uI; rcases (show k = bg + i ∨ k ≠ bg + i by omega) with z | z; (rw [if_pos z, if_pos (by omega), show k - bg = i by omega]); (rw [if_neg z, hGa k h0 h1]; by_cases z2 : bg ≤ k ∧ k < bg + i; rw [if_pos z2, if_pos (by omega)]; rw [if_neg z2, if_neg (by omega)])) ⟨f, g, sp, rf, rc, hAf, hAg, hAsp, hArf, hArc, hP, hD.weaken (fun _ _ _ h => hmb _ h)⟩ hS (lv_sub hl [1, 2, 3, 4, 5, 6, 7, 0] rfl)
  exact hloop52 ((ct + 1 : Int).toNat + 1) (0) (insF F q fo) (insF G q (sh * 2 ^ lv.toNat)) _ _ ls (by omega) (by omega) (fun k h0 h1 => rfl) (fun k h0 h1 => by rw [if_neg (by omega)]) ⟨f, g, sp, rf, rc, hAf, hAg, hAsp, hArf, hArc, hP, hD.weaken (fun _ _ _ h => hmb _ h)⟩ hS (lv_sub hl [5, 6, 7, 4, 3, 2, 1, 0] rfl)
set_option maxHeartbeats 4000000 in
set_option maxRecDepth 100000 in
theorem c_putIn (l : Launch) (D : va_G) (cI : ClassId) (base st : Nat) (Z : Nat → Nat) (x0 x1 x2 x5 x6 x7 : Nat) {n came MV : Int} {F G SP RF RC : Int → Int} (hn : 0 ≤ n ∧ n < 60) (hG : ∀ k : Int, 0 ≤ k → k < n → 0 ≤ G k ∧ G k ≤ 255) (hs : SD G n) (fo q : Int) (hq : 0 ≤ q ∧ q ≤ n) (G2 : Int → Int) (dm : Int) (SP2 : Int → Int) (hPT : PT G n q SP G2 dm SP2) : mu_M l yX0_putIn wsX0_putIn ({ frames := 5, cells := 0, slots := 0, locals := 117 } : Room) [.ref x0, .int (iI (fo)), .int (iI (q))] (CP D cI base st Z x0 x1 x2 x5 x6 x7 n came MV F G SP RF RC) none ((fun H => CW D cI base x0 x1 x2 x5 x6 x7 (n + 1) (came) (MV + dm) (insF F q fo) (G2) (SP2) (RF) (RC) H)) (mC x0 x1 x2 x5 x6 x7) := by
  refine mu_of (cc := cX0_putIn) (maxL := 3) (ret := none) (own := RX0) (by decide) rfl rfl (Nat.le_of_ble_eq_true rfl) ?_
  intro p e s m below meth c ls B hCP hl hS
  obtain ⟨hx, hb, hml, hr, hts, hown, hlocks⟩ := B
  obtain ⟨⟨hK, hZL, ⟨hstb, xs, hXL, hAL⟩, hTW⟩, f, g, sp, rf, rc, hAf, hAg, hAsp, hArf, hArc, hP, hDb⟩ := id hCP
  have hD := CW_mD hDb
  have hmb := mC_b hDb
  have hbl := CW_lt hCP.2
  have hSW0 := hCP.1
  have hl : lv_has ls 3 [(0, .ref x0), (1, .int (iI (fo))), (2, .int (iI (q)))] := hl
  have hin : ∀ w ∈ u_ws RX0 TX0 8, w ∈ wsX0_putIn := by decide +kernel
  have q_moves := hts (.fieldLink RX0 95 "ShelfMarks" "moves" "I") (by decide +kernel)
  rcases hPT with ⟨hfree, rfl, rfl, hsp⟩ | ⟨hfull, lv, hlv, rfl, rfl, rfl⟩
  · -- A
    obtain rfl := hsp.symm
    refine lv_aload_n hx hb dX0_putIn_0 rfl (lv_at hl 0 rfl) ?_
    have hn6 : 0 ≤ n ∧ n ≤ 60 := by omega
    have har := A0_rg hG hq
    have hm1 := ma_rg hG q
    have hm2 := ma_rg hG (q - 1)
    refine lv_dup hx hb dX0_putIn_1 rfl ?_
    refine va_get (D := D) (ci := 0) (v := .int (iI (MV))) (C := RX0) (T := TX0) (N := 8) hx hb hts hin hown hK hP 0 rfl rfl 4 (by decide) q_moves (fun _ h9 => h9) rfl dX0_putIn_2 ?_
    refine lv_aload_n hx hb dX0_putIn_5 rfl (lv_at hl 0 rfl) ?_
    refine lv_iload_n hx hb dX0_putIn_6 rfl (lv_at hl 2 rfl) ?_
    have hCP : CP D cI base st Z x0 x1 x2 x5 x6 x7 (n) (came) (MV) (F) (G) (SP) (RF) (RC) s s.heap := ⟨hSW0.behind hbl hmb hS, ⟨f, g, sp, rf, rc, hAf, hAg, hAsp, hArf, hArc, hP, hD.weaken (fun _ _ _ h => hmb _ h)⟩⟩
    refine pu_callV (v := 0) (As := [.int (iI (q))]) (rest := [.int (iI (MV)), .ref x0]) CP_mv ⟨hx, hb, hml, hown, hts⟩ (c_moves_free l D cI base st Z x0 x1 x2 x5 x6 x7 hn6 hG q hq hfree) (cwV 1 hts gX0_putIn_X0_movesByPuttingIn rfl rfl rfl (by decide +kernel) ⟨(Nat.le_of_ble_eq_true rfl), (Nat.le_of_ble_eq_true rfl)⟩) hCP (CP_rc hCP) rfl rfl hl.1 (Nat.le_of_ble_eq_true rfl) dX0_putIn_7 ⟨Nat.zero_le _, Nat.zero_le _⟩ ?_
    refine pv_iadd hx hb dX0_putIn_10 ?_
    rw [show iI ((MV) + (0)) = iI (MV + 0) from congrArg iI (rfl)]
    refine va_put (D := D) (ci := 0) (v := .int (iI (MV + 0))) (ty := .int) (C := RX0) (T := TX0) (N := 8) hx hb hts hin tyX0 tyX0_ok nmX0 hown hK hP hD hS 0 rfl rfl 4 (by decide) q_moves (fun _ h9 => h9) rfl (by decide +kernel) rfl rfl (Nat.le_of_ble_eq_true rfl) dX0_putIn_11 (fun H locs hP hD hS => ?_)
    have hP : va_P D vwCl (W0 cI x0 x1 x2 x5 x6 x7 (n) (came) (MV + 0) f g sp rf rc) H := hP
    have hD : va_D (mC x0 x1 x2 x5 x6 x7) (W0 cI x0 x1 x2 x5 x6 x7 (n) (came) (MV + 0) f g sp rf rc) := hD
    refine lv_aload_n hx hb dX0_putIn_14 rfl (lv_at hl 0 rfl) ?_
    refine lv_iload_n hx hb dX0_putIn_15 rfl (lv_at hl 2 rfl) ?_
    have hCP : CP D cI base st Z x0 x1 x2 x5 x6 x7 (n) (came) (MV + 0) (F) (G) (SP) (RF) (RC) s H := ⟨hSW0.behind hbl hmb hS, ⟨f, g, sp, rf, rc, hAf, hAg, hAsp, hArf, hArc, hP, hD.weaken (fun _ _ _ h => hmb _ h)⟩⟩
    refine pu_callV (v := 1) (As := [.int (iI (q))]) (rest := []) CP_mv ⟨hx, hb, hml, hown, hts⟩ (c_hasFreeMark l D cI base st Z x0 x1 x2 x5 x6 x7 hn6 hG q hq 1 (by rw [if_pos hfree])) (cwV 1 hts gX0_putIn_X0_hasFreeMark rfl rfl rfl (by decide +kernel) ⟨(Nat.le_of_ble_eq_true rfl), (Nat.le_of_ble_eq_true rfl)⟩) hCP (CP_rc hCP) rfl rfl hl.1 (Nat.le_of_ble_eq_true rfl) dX0_putIn_16 ⟨Nat.zero_le _, Nat.zero_le _⟩ ?_
    refine pv_if_eq (tgt := 46) hx hb dX0_putIn_19 (by decide) (by omega) (fun c_19 => ?_) (fun c_19 => ?_)
    · exact absurd c_19 (by omega)
    · -- 19f
      refine lv_aload_n hx hb dX0_putIn_22 rfl (lv_at hl 0 rfl) ?_
      refine lv_iload_n hx hb dX0_putIn_23 rfl (lv_at hl 2 rfl) ?_
      refine lv_iload_n hx hb dX0_putIn_24 rfl (lv_at hl 1 rfl) ?_
      refine lv_aload_n hx hb dX0_putIn_25 rfl (lv_at hl 0 rfl) ?_
      refine lv_iload_n hx hb dX0_putIn_26 rfl (lv_at hl 2 rfl) ?_
      refine pv_iconst hx hb dX0_putIn_27 ?_
      refine pv_isub hx hb dX0_putIn_28 ?_
      have hCP : CP D cI base st Z x0 x1 x2 x5 x6 x7 (n) (came) (MV + 0) (F) (G) (SP) (RF) (RC) s H := ⟨hSW0.behind hbl hmb hS, ⟨f, g, sp, rf, rc, hAf, hAg, hAsp, hArf, hArc, hP, hD.weaken (fun _ _ _ h => hmb _ h)⟩⟩
      refine pu_callV (v := ma G n (q - 1)) (As := [.int (iI ((q) - (1)))]) (rest := [.int (iI (fo)), .int (iI (q)), .ref x0]) CP_mv ⟨hx, hb, hml, hown, hts⟩ (c_markAt l D cI base st Z x0 x1 x2 x5 x6 x7 hn6 (q - 1) (by omega) _ rfl) (cwV 1 hts gX0_putIn_X0_markAt rfl rfl rfl (by decide +kernel) ⟨(Nat.le_of_ble_eq_true rfl), (Nat.le_of_ble_eq_true rfl)⟩) hCP (CP_rc hCP) rfl rfl hl.1 (Nat.le_of_ble_eq_true rfl) dX0_putIn_29 ⟨Nat.zero_le _, Nat.zero_le _⟩ ?_
      refine lv_aload_n hx hb dX0_putIn_32 rfl (lv_at hl 0 rfl) ?_
      refine lv_iload_n hx hb dX0_putIn_33 rfl (lv_at hl 2 rfl) ?_
      have hCP : CP D cI base st Z x0 x1 x2 x5 x6 x7 (n) (came) (MV + 0) (F) (G) (SP) (RF) (RC) s H := ⟨hSW0.behind hbl hmb hS, ⟨f, g, sp, rf, rc, hAf, hAg, hAsp, hArf, hArc, hP, hD.weaken (fun _ _ _ h => hmb _ h)⟩⟩
      refine pu_callV (v := ma G n q) (As := [.int (iI (q))]) (rest := [.int (iI (ma G n (q - 1))), .int (iI (fo)), .int (iI (q)), .ref x0]) CP_mv ⟨hx, hb, hml, hown, hts⟩ (c_markAt l D cI base st Z x0 x1 x2 x5 x6 x7 hn6 q (by omega) _ rfl) (cwV 1 hts gX0_putIn_X0_markAt rfl rfl rfl (by decide +kernel) ⟨(Nat.le_of_ble_eq_true rfl), (Nat.le_of_ble_eq_true rfl)⟩) hCP (CP_rc hCP) rfl rfl hl.1 (Nat.le_of_ble_eq_true rfl) dX0_putIn_34 ⟨Nat.zero_le _, Nat.zero_le _⟩ ?_
      refine pv_iadd hx hb dX0_putIn_37 ?_
      refine pv_iconst hx hb dX0_putIn_38 ?_
      refine pv_idiv hx hb dX0_putIn_39 (by omega) (by omega) ?_
      have hCP : CP D cI base st Z x0 x1 x2 x5 x6 x7 (n) (came) (MV + 0) (F) (G) (SP) (RF) (RC) s H := ⟨hSW0.behind hbl hmb hS, ⟨f, g, sp, rf, rc, hAf, hAg, hAsp, hArf, hArc, hP, hD.weaken (fun _ _ _ h => hmb _ h)⟩⟩
      refine mu_callV (As := [.int (iI (q)), .int (iI (fo)), .int (iI (((ma G n (q - 1)) + (ma G n q)) / (2)))]) (rest := []) CP_mv ⟨hx, hb, hml, hown, hts⟩ (c_insertAt l D cI base st Z x0 x1 x2 x5 x6 x7 hn q hq fo ((ma G n (q - 1) + ma G n q) / 2)) (cwV 3 hts gX0_putIn_X0_insertAt rfl rfl rfl (by decide +kernel) ⟨(Nat.le_of_ble_eq_true rfl), (Nat.le_of_ble_eq_true rfl)⟩) hCP (CP_rc hCP) rfl rfl hl.1 (Nat.le_of_ble_eq_true rfl) dX0_putIn_40 ⟨Nat.zero_le _, Nat.zero_le _⟩ hS (fun _ h => h) (fun H locs hC9 hz9 hk9 hS => ?_)
      have hC9 : CW D cI base x0 x1 x2 x5 x6 x7 (n + 1) (came) (MV + 0) (insF F q fo) (insF G q ((ma G n (q - 1) + ma G n q) / 2)) (SP) (RF) (RC) H := hC9
      obtain ⟨f, g, sp, rf, rc, hAf, hAg, hAsp, hArf, hArc, hP, hDb⟩ := hC9
      have hD := CW_mD hDb
      refine lv_goto (tgt := 52) hx hb dX0_putIn_43 (by decide) ?_
      exact mu_vret hx hb hr hlocks hS dX0_putIn_52 ⟨f, g, sp, rf, rc, hAf, hAg, hAsp, hArf, hArc, hP, hD.weaken (fun _ _ _ h => hmb _ h)⟩
  · -- B
    refine lv_aload_n hx hb dX0_putIn_0 rfl (lv_at hl 0 rfl) ?_
    have hn6 : 0 ≤ n ∧ n ≤ 60 := by omega
    have har := A0_rg hG hq
    have hm1 := ma_rg hG q
    have hm2 := ma_rg hG (q - 1)
    refine lv_dup hx hb dX0_putIn_1 rfl ?_
    refine va_get (D := D) (ci := 0) (v := .int (iI (MV))) (C := RX0) (T := TX0) (N := 8) hx hb hts hin hown hK hP 0 rfl rfl 4 (by decide) q_moves (fun _ h9 => h9) rfl dX0_putIn_2 ?_
    refine lv_aload_n hx hb dX0_putIn_5 rfl (lv_at hl 0 rfl) ?_
    refine lv_iload_n hx hb dX0_putIn_6 rfl (lv_at hl 2 rfl) ?_
    have hCP : CP D cI base st Z x0 x1 x2 x5 x6 x7 (n) (came) (MV) (F) (G) (SP) (RF) (RC) s s.heap := ⟨hSW0.behind hbl hmb hS, ⟨f, g, sp, rf, rc, hAf, hAg, hAsp, hArf, hArc, hP, hD.weaken (fun _ _ _ h => hmb _ h)⟩⟩
    refine pu_callV (v := mvn G q (A0 G n q / 2 ^ lv.toNat * 2 ^ lv.toNat) (2 ^ lv.toNat) (mb G n (A0 G n q / 2 ^ lv.toNat * 2 ^ lv.toNat)) (ldn G n lv (A0 G n q / 2 ^ lv.toNat) + 1) (ldn G n lv (A0 G n q / 2 ^ lv.toNat)).toNat) (As := [.int (iI (q))]) (rest := [.int (iI (MV)), .ref x0]) CP_mv ⟨hx, hb, hml, hown, hts⟩ (c_moves_full l D cI base st Z x0 x1 x2 x5 x6 x7 hn6 hG hs q hq hfull (A0 G n q) rfl har lv hlv _ rfl) (cwV 1 hts gX0_putIn_X0_movesByPuttingIn rfl rfl rfl (by decide +kernel) ⟨(Nat.le_of_ble_eq_true rfl), (Nat.le_of_ble_eq_true rfl)⟩) hCP (CP_rc hCP) rfl rfl hl.1 (Nat.le_of_ble_eq_true rfl) dX0_putIn_7 ⟨Nat.zero_le _, Nat.zero_le _⟩ ?_
    refine pv_iadd hx hb dX0_putIn_10 ?_
    rw [show iI ((MV) + (mvn G q (A0 G n q / 2 ^ lv.toNat * 2 ^ lv.toNat) (2 ^ lv.toNat) (mb G n (A0 G n q / 2 ^ lv.toNat * 2 ^ lv.toNat)) (ldn G n lv (A0 G n q / 2 ^ lv.toNat) + 1) (ldn G n lv (A0 G n q / 2 ^ lv.toNat)).toNat)) = iI (MV + mvn G q (A0 G n q / 2 ^ lv.toNat * 2 ^ lv.toNat) (2 ^ lv.toNat) (mb G n (A0 G n q / 2 ^ lv.toNat * 2 ^ lv.toNat)) (ldn G n lv (A0 G n q / 2 ^ lv.toNat) + 1) (ldn G n lv (A0 G n q / 2 ^ lv.toNat)).toNat) from congrArg iI (rfl)]
    refine va_put (D := D) (ci := 0) (v := .int (iI (MV + mvn G q (A0 G n q / 2 ^ lv.toNat * 2 ^ lv.toNat) (2 ^ lv.toNat) (mb G n (A0 G n q / 2 ^ lv.toNat * 2 ^ lv.toNat)) (ldn G n lv (A0 G n q / 2 ^ lv.toNat) + 1) (ldn G n lv (A0 G n q / 2 ^ lv.toNat)).toNat))) (ty := .int) (C := RX0) (T := TX0) (N := 8) hx hb hts hin tyX0 tyX0_ok nmX0 hown hK hP hD hS 0 rfl rfl 4 (by decide) q_moves (fun _ h9 => h9) rfl (by decide +kernel) rfl rfl (Nat.le_of_ble_eq_true rfl) dX0_putIn_11 (fun H locs hP hD hS => ?_)
    have hP : va_P D vwCl (W0 cI x0 x1 x2 x5 x6 x7 (n) (came) (MV + mvn G q (A0 G n q / 2 ^ lv.toNat * 2 ^ lv.toNat) (2 ^ lv.toNat) (mb G n (A0 G n q / 2 ^ lv.toNat * 2 ^ lv.toNat)) (ldn G n lv (A0 G n q / 2 ^ lv.toNat) + 1) (ldn G n lv (A0 G n q / 2 ^ lv.toNat)).toNat) f g sp rf rc) H := hP
    have hD : va_D (mC x0 x1 x2 x5 x6 x7) (W0 cI x0 x1 x2 x5 x6 x7 (n) (came) (MV + mvn G q (A0 G n q / 2 ^ lv.toNat * 2 ^ lv.toNat) (2 ^ lv.toNat) (mb G n (A0 G n q / 2 ^ lv.toNat * 2 ^ lv.toNat)) (ldn G n lv (A0 G n q / 2 ^ lv.toNat) + 1) (ldn G n lv (A0 G n q / 2 ^ lv.toNat)).toNat) f g sp rf rc) := hD
    refine lv_aload_n hx hb dX0_putIn_14 rfl (lv_at hl 0 rfl) ?_
    refine lv_iload_n hx hb dX0_putIn_15 rfl (lv_at hl 2 rfl) ?_
    have hCP : CP D cI base st Z x0 x1 x2 x5 x6 x7 (n) (came) (MV + mvn G q (A0 G n q / 2 ^ lv.toNat * 2 ^ lv.toNat) (2 ^ lv.toNat) (mb G n (A0 G n q / 2 ^ lv.toNat * 2 ^ lv.toNat)) (ldn G n lv (A0 G n q / 2 ^ lv.toNat) + 1) (ldn G n lv (A0 G n q / 2 ^ lv.toNat)).toNat) (F) (G) (SP) (RF) (RC) s H := ⟨hSW0.behind hbl hmb hS, ⟨f, g, sp, rf, rc, hAf, hAg, hAsp, hArf, hArc, hP, hD.weaken (fun _ _ _ h => hmb _ h)⟩⟩
    refine pu_callV (v := 0) (As := [.int (iI (q))]) (rest := []) CP_mv ⟨hx, hb, hml, hown, hts⟩ (c_hasFreeMark l D cI base st Z x0 x1 x2 x5 x6 x7 hn6 hG q hq 0 (by rw [if_neg (by omega)])) (cwV 1 hts gX0_putIn_X0_hasFreeMark rfl rfl rfl (by decide +kernel) ⟨(Nat.le_of_ble_eq_true rfl), (Nat.le_of_ble_eq_true rfl)⟩) hCP (CP_rc hCP) rfl rfl hl.1 (Nat.le_of_ble_eq_true rfl) dX0_putIn_16 ⟨Nat.zero_le _, Nat.zero_le _⟩ ?_
    refine pv_if_eq (tgt := 46) hx hb dX0_putIn_19 (by decide) (by omega) (fun c_19 => ?_) (fun c_19 => ?_)
    · -- 19t
      refine lv_aload_n hx hb dX0_putIn_46 rfl (lv_at hl 0 rfl) ?_
      refine lv_iload_n hx hb dX0_putIn_47 rfl (lv_at hl 1 rfl) ?_
      refine lv_iload_n hx hb dX0_putIn_48 rfl (lv_at hl 2 rfl) ?_
      have hCP : CP D cI base st Z x0 x1 x2 x5 x6 x7 (n) (came) (MV + mvn G q (A0 G n q / 2 ^ lv.toNat * 2 ^ lv.toNat) (2 ^ lv.toNat) (mb G n (A0 G n q / 2 ^ lv.toNat * 2 ^ lv.toNat)) (ldn G n lv (A0 G n q / 2 ^ lv.toNat) + 1) (ldn G n lv (A0 G n q / 2 ^ lv.toNat)).toNat) (F) (G) (SP) (RF) (RC) s H := ⟨hSW0.behind hbl hmb hS, ⟨f, g, sp, rf, rc, hAf, hAg, hAsp, hArf, hArc, hP, hD.weaken (fun _ _ _ h => hmb _ h)⟩⟩
      refine mu_callV (As := [.int (iI (fo)), .int (iI (q))]) (rest := []) CP_mv ⟨hx, hb, hml, hown, hts⟩ (c_spreadOut l D cI base st Z x0 x1 x2 x5 x6 x7 hn hG hs fo q hq lv hlv) (cwV 2 hts gX0_putIn_X0_spreadOut rfl rfl rfl (by decide +kernel) ⟨(Nat.le_of_ble_eq_true rfl), (Nat.le_of_ble_eq_true rfl)⟩) hCP (CP_rc hCP) rfl rfl hl.1 (Nat.le_of_ble_eq_true rfl) dX0_putIn_49 ⟨Nat.zero_le _, Nat.zero_le _⟩ hS (fun _ h => h) (fun H locs hC9 hz9 hk9 hS => ?_)
      have hC9 : CW D cI base x0 x1 x2 x5 x6 x7 (n + 1) (came) (MV + mvn G q (A0 G n q / 2 ^ lv.toNat * 2 ^ lv.toNat) (2 ^ lv.toNat) (mb G n (A0 G n q / 2 ^ lv.toNat * 2 ^ lv.toNat)) (ldn G n lv (A0 G n q / 2 ^ lv.toNat) + 1) (ldn G n lv (A0 G n q / 2 ^ lv.toNat)).toNat) (insF F q fo) (spG G (A0 G n q / 2 ^ lv.toNat * 2 ^ lv.toNat) (2 ^ lv.toNat) (mb G n (A0 G n q / 2 ^ lv.toNat * 2 ^ lv.toNat)) (ldn G n lv (A0 G n q / 2 ^ lv.toNat) + 1)) (uI SP lv (SP lv + 1)) (RF) (RC) H := hC9
      obtain ⟨f, g, sp, rf, rc, hAf, hAg, hAsp, hArf, hArc, hP, hDb⟩ := hC9
      have hD := CW_mD hDb
      exact mu_vret hx hb hr hlocks hS dX0_putIn_52 ⟨f, g, sp, rf, rc, hAf, hAg, hAsp, hArf, hArc, hP, hD.weaken (fun _ _ _ h => hmb _ h)⟩
    · exact absurd c_19 (by omega)
set_option maxHeartbeats 4000000 in
set_option maxRecDepth 100000 in
theorem c_putFirst (l : Launch) (D : va_G) (cI : ClassId) (base st : Nat) (Z : Nat → Nat) (x0 x1 x2 x5 x6 x7 : Nat) {n came MV : Int} {F G SP RF RC : Int → Int} (hn : 0 ≤ n ∧ n < 60) (hG : ∀ k : Int, 0 ≤ k → k < n → 0 ≤ G k ∧ G k ≤ 255) (hs : SD G n) (hcm : 0 ≤ came ∧ came < 200) (G2 : Int → Int) (dm : Int) (SP2 : Int → Int) (hPT : PT G n 0 SP G2 dm SP2) : mu_M l yX0_putFirst wsX0_putFirst ({ frames := 6, cells := 0, slots := 0, locals := 139 } : Room) [.ref x0] (CP D cI base st Z x0 x1 x2 x5 x6 x7 n came MV F G SP RF RC) (some (.int (iI came))) ((fun H => CW D cI base x0 x1 x2 x5 x6 x7 (n + 1) (came + 1) (MV + dm) (insF F 0 came) (G2) (SP2) (RF) (RC) H)) (mC x0 x1 x2 x5 x6 x7) := by
  refine mu_of (cc := cX0_putFirst) (maxL := 2) (ret := (some .int)) (own := RX0) (by decide) rfl rfl (Nat.le_of_ble_eq_true rfl) ?_
  intro p e s m below meth c ls B hCP hl hS
  obtain ⟨hx, hb, hml, hr, hts, hown, hlocks⟩ := B
  obtain ⟨⟨hK, hZL, ⟨hstb, xs, hXL, hAL⟩, hTW⟩, f, g, sp, rf, rc, hAf, hAg, hAsp, hArf, hArc, hP, hDb⟩ := id hCP
  have hD := CW_mD hDb
  have hmb := mC_b hDb
  have hbl := CW_lt hCP.2
  have hSW0 := hCP.1
  have hl : lv_has ls 2 [(0, .ref x0)] := hl
  refine lv_aload_n hx hb dX0_putFirst_0 rfl (lv_at hl 0 rfl) ?_
  have hCP : CP D cI base st Z x0 x1 x2 x5 x6 x7 (n) (came) (MV) (F) (G) (SP) (RF) (RC) s s.heap := ⟨hSW0.behind hbl hmb hS, ⟨f, g, sp, rf, rc, hAf, hAg, hAsp, hArf, hArc, hP, hD.weaken (fun _ _ _ h => hmb _ h)⟩⟩
  refine pn_callV (As := []) (rest := []) CP_mv ⟨hx, hb, hml, hown, hts⟩ (c_requireThatOneMayCome l D cI base st Z x0 x1 x2 x5 x6 x7 (by omega) (by omega) (by omega)) (cwV 0 hts gX0_putFirst_X0_requireThatOneMayCome rfl rfl rfl (by decide +kernel) ⟨(Nat.le_of_ble_eq_true rfl), (Nat.le_of_ble_eq_true rfl)⟩) hCP (CP_rc hCP) rfl rfl hl.1 (Nat.le_of_ble_eq_true rfl) dX0_putFirst_1 ⟨Nat.zero_le _, Nat.zero_le _⟩ ?_
  refine lv_aload_n hx hb dX0_putFirst_4 rfl (lv_at hl 0 rfl) ?_
  have hCP : CP D cI base st Z x0 x1 x2 x5 x6 x7 (n) (came) (MV) (F) (G) (SP) (RF) (RC) s s.heap := ⟨hSW0.behind hbl hmb hS, ⟨f, g, sp, rf, rc, hAf, hAg, hAsp, hArf, hArc, hP, hD.weaken (fun _ _ _ h => hmb _ h)⟩⟩
  refine mu_callV (As := []) (rest := []) CP_mv ⟨hx, hb, hml, hown, hts⟩ (c_nextNumber l D cI base st Z x0 x1 x2 x5 x6 x7 ) (cwV 0 hts gX0_putFirst_X0_nextNumber rfl rfl rfl (by decide +kernel) ⟨(Nat.le_of_ble_eq_true rfl), (Nat.le_of_ble_eq_true rfl)⟩) hCP (CP_rc hCP) rfl rfl hl.1 (Nat.le_of_ble_eq_true rfl) dX0_putFirst_5 ⟨Nat.zero_le _, Nat.zero_le _⟩ hS (fun _ h => h) (fun H locs hC9 hz9 hk9 hS => ?_)
  have hC9 : CW D cI base x0 x1 x2 x5 x6 x7 (n) (came + 1) (MV) (F) (G) (SP) (RF) (RC) H := hC9
  obtain ⟨f, g, sp, rf, rc, hAf, hAg, hAsp, hArf, hArc, hP, hDb⟩ := hC9
  have hD := CW_mD hDb
  refine lv_istore_n (lv' := [(1, .int (iI (came))), (0, .ref x0)]) hx hb dX0_putFirst_8 rfl hl (by decide) rfl (fun ls hl => ?_)
  refine lv_aload_n hx hb dX0_putFirst_9 rfl (lv_at hl 1 rfl) ?_
  refine lv_iload_n hx hb dX0_putFirst_10 rfl (lv_at hl 0 rfl) ?_
  refine pv_iconst hx hb dX0_putFirst_11 ?_
  have hCP : CP D cI base st Z x0 x1 x2 x5 x6 x7 (n) (came + 1) (MV) (F) (G) (SP) (RF) (RC) s H := ⟨hSW0.behind hbl hmb hS, ⟨f, g, sp, rf, rc, hAf, hAg, hAsp, hArf, hArc, hP, hD.weaken (fun _ _ _ h => hmb _ h)⟩⟩
  refine mu_callV (As := [.int (iI (came)), .int (iI (0))]) (rest := []) CP_mv ⟨hx, hb, hml, hown, hts⟩ (c_putIn l D cI base st Z x0 x1 x2 x5 x6 x7 hn hG hs came 0 (by omega) G2 dm SP2 hPT) (cwV 2 hts gX0_putFirst_X0_putIn rfl rfl rfl (by decide +kernel) ⟨(Nat.le_of_ble_eq_true rfl), (Nat.le_of_ble_eq_true rfl)⟩) hCP (CP_rc hCP) rfl rfl hl.1 (Nat.le_of_ble_eq_true rfl) dX0_putFirst_12 ⟨Nat.zero_le _, Nat.zero_le _⟩ hS (fun _ h => h) (fun H locs hC9 hz9 hk9 hS => ?_)
  have hC9 : CW D cI base x0 x1 x2 x5 x6 x7 (n + 1) (came + 1) (MV + dm) (insF F 0 came) (G2) (SP2) (RF) (RC) H := hC9
  obtain ⟨f, g, sp, rf, rc, hAf, hAg, hAsp, hArf, hArc, hP, hDb⟩ := hC9
  have hD := CW_mD hDb
  refine lv_iload_n hx hb dX0_putFirst_15 rfl (lv_at hl 0 rfl) ?_
  exact mu_iret hx hb hr hlocks hS dX0_putFirst_16 (by rfl) ⟨f, g, sp, rf, rc, hAf, hAg, hAsp, hArf, hArc, hP, hD.weaken (fun _ _ _ h => hmb _ h)⟩
set_option maxHeartbeats 4000000 in
set_option maxRecDepth 100000 in
theorem t_putFirst (l : Launch) (D : va_G) (cI : ClassId) (base st : Nat) (Z : Nat → Nat) (x0 x1 x2 x5 x6 x7 : Nat) {n came MV : Int} {F G SP RF RC : Int → Int} (hfl : l.stackTraces = false) (hn : 0 ≤ n ∧ n ≤ 60) (hcm : 0 ≤ came ∧ came ≤ 200) (hfr : ¬ (came < 200 ∧ n < 60)) : th_M l yX0_putFirst wsX0_putFirst ({ frames := 7, cells := 1, slots := 6, locals := 112 } : Room) [.ref x0] (CP D cI base st Z x0 x1 x2 x5 x6 x7 n came MV F G SP RF RC) "java/lang/IllegalStateException" := by
  refine th_of (cc := cX0_putFirst) (maxL := 2) (ret := (some .int)) (own := RX0) (by decide) rfl rfl (Nat.le_of_ble_eq_true rfl) ?_
  intro p e s m below meth c ls B hno hCP hl
  obtain ⟨hx, hb, hml, hr, hts, hown, hlocks⟩ := B
  obtain ⟨⟨hK, hZL, ⟨hstb, xs, hXL, hAL⟩, hTW⟩, f, g, sp, rf, rc, hAf, hAg, hAsp, hArf, hArc, hP, hDb⟩ := id hCP
  have hl : lv_has ls 2 [(0, .ref x0)] := hl
  refine lv_aload_n hx hb dX0_putFirst_0 rfl (lv_at hl 0 rfl) ?_
  refine th_callV (As := []) (rest := []) CP_mv ⟨hx, hb, hml, hown, hts⟩ (t_requireThatOneMayCome l D cI base st Z x0 x1 x2 x5 x6 x7 hfl hn hcm hfr) (cwV 0 hts gX0_putFirst_X0_requireThatOneMayCome rfl rfl rfl (by decide +kernel) ⟨(Nat.le_of_ble_eq_true rfl), (Nat.le_of_ble_eq_true rfl)⟩) hCP (CP_rc hCP) rfl rfl hl.1 (Nat.le_of_ble_eq_true rfl) dX0_putFirst_1 ⟨(Nat.le_of_ble_eq_true rfl), (Nat.le_of_ble_eq_true rfl)⟩ (fun H1 ce q9 h1 h2 h3 h4 h5 => ?_)
  exact th_out hno hlocks h1 h2 h3 h4 h5
set_option maxHeartbeats 4000000 in
set_option maxRecDepth 100000 in
theorem c_putBehind (l : Launch) (D : va_G) (cI : ClassId) (base st : Nat) (Z : Nat → Nat) (x0 x1 x2 x5 x6 x7 : Nat) {n came MV : Int} {F G SP RF RC : Int → Int} (hn : 0 ≤ n ∧ n < 60) (hF : ∀ k : Int, 0 ≤ k → k < n → 0 ≤ F k ∧ F k < 200) (hG : ∀ k : Int, 0 ≤ k → k < n → 0 ≤ G k ∧ G k ≤ 255) (hs : SD G n) (hcm : 0 ≤ came ∧ came < 200) (x : Int) (hxr : (-2147483648 ≤ x ∧ x ≤ 2147483647)) (rp : Int) (hrp : PL F n x rp) (h0 : 0 ≤ rp) (G2 : Int → Int) (dm : Int) (SP2 : Int → Int) (hPT : PT G n (rp + 1) SP G2 dm SP2) : mu_M l yX0_putBehind wsX0_putBehind ({ frames := 6, cells := 0, slots := 0, locals := 139 } : Room) [.ref x0, .int (iI (x))] (CP D cI base st Z x0 x1 x2 x5 x6 x7 n came MV F G SP RF RC) (some (.int (iI came))) ((fun H => CW D cI base x0 x1 x2 x5 x6 x7 (n + 1) (came + 1) (MV + dm) (insF F (rp + 1) came) (G2) (SP2) (RF) (RC) H)) (mC x0 x1 x2 x5 x6 x7) := by
  refine mu_of (cc := cX0_putBehind) (maxL := 4) (ret := (some .int)) (own := RX0) (by decide) rfl rfl (Nat.le_of_ble_eq_true rfl) ?_
  intro p e s m below meth c ls B hCP hl hS
  obtain ⟨hx, hb, hml, hr, hts, hown, hlocks⟩ := B
  obtain ⟨⟨hK, hZL, ⟨hstb, xs, hXL, hAL⟩, hTW⟩, f, g, sp, rf, rc, hAf, hAg, hAsp, hArf, hArc, hP, hDb⟩ := id hCP
  have hD := CW_mD hDb
  have hmb := mC_b hDb
  have hbl := CW_lt hCP.2
  have hSW0 := hCP.1
  have hl : lv_has ls 4 [(0, .ref x0), (1, .int (iI (x)))] := hl
  refine lv_aload_n hx hb dX0_putBehind_0 rfl (lv_at hl 0 rfl) ?_
  refine lv_iload_n hx hb dX0_putBehind_1 rfl (lv_at hl 1 rfl) ?_
  have hpr := PL_rg hn.1 hrp
  have hCP : CP D cI base st Z x0 x1 x2 x5 x6 x7 (n) (came) (MV) (F) (G) (SP) (RF) (RC) s s.heap := ⟨hSW0.behind hbl hmb hS, ⟨f, g, sp, rf, rc, hAf, hAg, hAsp, hArf, hArc, hP, hD.weaken (fun _ _ _ h => hmb _ h)⟩⟩
  refine pu_callV (v := rp) (As := [.int (iI (x))]) (rest := []) CP_mv ⟨hx, hb, hml, hown, hts⟩ (c_requirePlace l D cI base st Z x0 x1 x2 x5 x6 x7 (by omega) hF x hxr rp hrp h0) (cwV 1 hts gX0_putBehind_X0_requirePlace rfl rfl rfl (by decide +kernel) ⟨(Nat.le_of_ble_eq_true rfl), (Nat.le_of_ble_eq_true rfl)⟩) hCP (CP_rc hCP) rfl rfl hl.1 (Nat.le_of_ble_eq_true rfl) dX0_putBehind_2 ⟨Nat.zero_le _, Nat.zero_le _⟩ ?_
  refine lv_istore_n (lv' := [(2, .int (iI (rp))), (0, .ref x0), (1, .int (iI (x)))]) hx hb dX0_putBehind_5 rfl hl (by decide) rfl (fun ls hl => ?_)
  refine lv_aload_n hx hb dX0_putBehind_6 rfl (lv_at hl 1 rfl) ?_
  have hCP : CP D cI base st Z x0 x1 x2 x5 x6 x7 (n) (came) (MV) (F) (G) (SP) (RF) (RC) s s.heap := ⟨hSW0.behind hbl hmb hS, ⟨f, g, sp, rf, rc, hAf, hAg, hAsp, hArf, hArc, hP, hD.weaken (fun _ _ _ h => hmb _ h)⟩⟩
  refine pn_callV (As := []) (rest := []) CP_mv ⟨hx, hb, hml, hown, hts⟩ (c_requireThatOneMayCome l D cI base st Z x0 x1 x2 x5 x6 x7 (by omega) (by omega) (by omega)) (cwV 0 hts gX0_putBehind_X0_requireThatOneMayCome rfl rfl rfl (by decide +kernel) ⟨(Nat.le_of_ble_eq_true rfl), (Nat.le_of_ble_eq_true rfl)⟩) hCP (CP_rc hCP) rfl rfl hl.1 (Nat.le_of_ble_eq_true rfl) dX0_putBehind_7 ⟨Nat.zero_le _, Nat.zero_le _⟩ ?_
  refine lv_aload_n hx hb dX0_putBehind_10 rfl (lv_at hl 1 rfl) ?_
  have hCP : CP D cI base st Z x0 x1 x2 x5 x6 x7 (n) (came) (MV) (F) (G) (SP) (RF) (RC) s s.heap := ⟨hSW0.behind hbl hmb hS, ⟨f, g, sp, rf, rc, hAf, hAg, hAsp, hArf, hArc, hP, hD.weaken (fun _ _ _ h => hmb _ h)⟩⟩
  refine mu_callV (As := []) (rest := []) CP_mv ⟨hx, hb, hml, hown, hts⟩ (c_nextNumber l D cI base st Z x0 x1 x2 x5 x6 x7 ) (cwV 0 hts gX0_putBehind_X0_nextNumber rfl rfl rfl (by decide +kernel) ⟨(Nat.le_of_ble_eq_true rfl), (Nat.le_of_ble_eq_true rfl)⟩) hCP (CP_rc hCP) rfl rfl hl.1 (Nat.le_of_ble_eq_true rfl) dX0_putBehind_11 ⟨Nat.zero_le _, Nat.zero_le _⟩ hS (fun _ h => h) (fun H locs hC9 hz9 hk9 hS => ?_)
  have hC9 : CW D cI base x0 x1 x2 x5 x6 x7 (n) (came + 1) (MV) (F) (G) (SP) (RF) (RC) H := hC9
  obtain ⟨f, g, sp, rf, rc, hAf, hAg, hAsp, hArf, hArc, hP, hDb⟩ := hC9
  have hD := CW_mD hDb
  refine lv_istore_n (lv' := [(3, .int (iI (came))), (2, .int (iI (rp))), (0, .ref x0), (1, .int (iI (x)))]) hx hb dX0_putBehind_14 rfl hl (by decide) rfl (fun ls hl => ?_)
  refine lv_aload_n hx hb dX0_putBehind_15 rfl (lv_at hl 2 rfl) ?_
  refine lv_iload_n hx hb dX0_putBehind_16 rfl (lv_at hl 0 rfl) ?_
  refine lv_iload_n hx hb dX0_putBehind_17 rfl (lv_at hl 1 rfl) ?_
  refine pv_iconst hx hb dX0_putBehind_18 ?_
  refine pv_iadd hx hb dX0_putBehind_19 ?_
  have hCP : CP D cI base st Z x0 x1 x2 x5 x6 x7 (n) (came + 1) (MV) (F) (G) (SP) (RF) (RC) s H := ⟨hSW0.behind hbl hmb hS, ⟨f, g, sp, rf, rc, hAf, hAg, hAsp, hArf, hArc, hP, hD.weaken (fun _ _ _ h => hmb _ h)⟩⟩
  refine mu_callV (As := [.int (iI (came)), .int (iI ((rp) + (1)))]) (rest := []) CP_mv ⟨hx, hb, hml, hown, hts⟩ (c_putIn l D cI base st Z x0 x1 x2 x5 x6 x7 hn hG hs came (rp + 1) (by omega) G2 dm SP2 hPT) (cwV 2 hts gX0_putBehind_X0_putIn rfl rfl rfl (by decide +kernel) ⟨(Nat.le_of_ble_eq_true rfl), (Nat.le_of_ble_eq_true rfl)⟩) hCP (CP_rc hCP) rfl rfl hl.1 (Nat.le_of_ble_eq_true rfl) dX0_putBehind_20 ⟨Nat.zero_le _, Nat.zero_le _⟩ hS (fun _ h => h) (fun H locs hC9 hz9 hk9 hS => ?_)
  have hC9 : CW D cI base x0 x1 x2 x5 x6 x7 (n + 1) (came + 1) (MV + dm) (insF F (rp + 1) came) (G2) (SP2) (RF) (RC) H := hC9
  obtain ⟨f, g, sp, rf, rc, hAf, hAg, hAsp, hArf, hArc, hP, hDb⟩ := hC9
  have hD := CW_mD hDb
  refine lv_iload_n hx hb dX0_putBehind_23 rfl (lv_at hl 0 rfl) ?_
  exact mu_iret hx hb hr hlocks hS dX0_putBehind_24 (by rfl) ⟨f, g, sp, rf, rc, hAf, hAg, hAsp, hArf, hArc, hP, hD.weaken (fun _ _ _ h => hmb _ h)⟩
set_option maxHeartbeats 4000000 in
set_option maxRecDepth 100000 in
theorem t_putBehind (l : Launch) (D : va_G) (cI : ClassId) (base st : Nat) (Z : Nat → Nat) (x0 x1 x2 x5 x6 x7 : Nat) {n came MV : Int} {F G SP RF RC : Int → Int} (hfl : l.stackTraces = false) (hn : 0 ≤ n ∧ n ≤ 60) (hF : ∀ k : Int, 0 ≤ k → k < n → 0 ≤ F k ∧ F k < 200) (x : Int) (hxr : (-2147483648 ≤ x ∧ x ≤ 2147483647)) (hrp : PL F n x (-1)) : th_M l yX0_putBehind wsX0_putBehind ({ frames := 7, cells := 1, slots := 6, locals := 114 } : Room) [.ref x0, .int (iI (x))] (CP D cI base st Z x0 x1 x2 x5 x6 x7 n came MV F G SP RF RC) "java/lang/IndexOutOfBoundsException" := by
  refine th_of (cc := cX0_putBehind) (maxL := 4) (ret := (some .int)) (own := RX0) (by decide) rfl rfl (Nat.le_of_ble_eq_true rfl) ?_
  intro p e s m below meth c ls B hno hCP hl
  obtain ⟨hx, hb, hml, hr, hts, hown, hlocks⟩ := B
  obtain ⟨⟨hK, hZL, ⟨hstb, xs, hXL, hAL⟩, hTW⟩, f, g, sp, rf, rc, hAf, hAg, hAsp, hArf, hArc, hP, hDb⟩ := id hCP
  have hl : lv_has ls 4 [(0, .ref x0), (1, .int (iI (x)))] := hl
  refine lv_aload_n hx hb dX0_putBehind_0 rfl (lv_at hl 0 rfl) ?_
  refine lv_iload_n hx hb dX0_putBehind_1 rfl (lv_at hl 1 rfl) ?_
  refine th_callV (As := [.int (iI (x))]) (rest := []) CP_mv ⟨hx, hb, hml, hown, hts⟩ (t_requirePlace l D cI base st Z x0 x1 x2 x5 x6 x7 hfl hn hF x hxr hrp) (cwV 1 hts gX0_putBehind_X0_requirePlace rfl rfl rfl (by decide +kernel) ⟨(Nat.le_of_ble_eq_true rfl), (Nat.le_of_ble_eq_true rfl)⟩) hCP (CP_rc hCP) rfl rfl hl.1 (Nat.le_of_ble_eq_true rfl) dX0_putBehind_2 ⟨(Nat.le_of_ble_eq_true rfl), (Nat.le_of_ble_eq_true rfl)⟩ (fun H1 ce q9 h1 h2 h3 h4 h5 => ?_)
  exact th_out hno hlocks h1 h2 h3 h4 h5
set_option maxHeartbeats 4000000 in
set_option maxRecDepth 100000 in
theorem t_putBehind2 (l : Launch) (D : va_G) (cI : ClassId) (base st : Nat) (Z : Nat → Nat) (x0 x1 x2 x5 x6 x7 : Nat) {n came MV : Int} {F G SP RF RC : Int → Int} (hfl : l.stackTraces = false) (hn : 0 ≤ n ∧ n ≤ 60) (hF : ∀ k : Int, 0 ≤ k → k < n → 0 ≤ F k ∧ F k < 200) (hcm : 0 ≤ came ∧ came ≤ 200) (x : Int) (hxr : (-2147483648 ≤ x ∧ x ≤ 2147483647)) (rp : Int) (hrp : PL F n x rp) (h0 : 0 ≤ rp) (hfr : ¬ (came < 200 ∧ n < 60)) : th_M l yX0_putBehind wsX0_putBehind ({ frames := 7, cells := 1, slots := 6, locals := 112 } : Room) [.ref x0, .int (iI (x))] (CP D cI base st Z x0 x1 x2 x5 x6 x7 n came MV F G SP RF RC) "java/lang/IllegalStateException" := by
  refine th_of (cc := cX0_putBehind) (maxL := 4) (ret := (some .int)) (own := RX0) (by decide) rfl rfl (Nat.le_of_ble_eq_true rfl) ?_
  intro p e s m below meth c ls B hno hCP hl
  obtain ⟨hx, hb, hml, hr, hts, hown, hlocks⟩ := B
  obtain ⟨⟨hK, hZL, ⟨hstb, xs, hXL, hAL⟩, hTW⟩, f, g, sp, rf, rc, hAf, hAg, hAsp, hArf, hArc, hP, hDb⟩ := id hCP
  have hl : lv_has ls 4 [(0, .ref x0), (1, .int (iI (x)))] := hl
  refine lv_aload_n hx hb dX0_putBehind_0 rfl (lv_at hl 0 rfl) ?_
  refine lv_iload_n hx hb dX0_putBehind_1 rfl (lv_at hl 1 rfl) ?_
  refine pu_callV (v := rp) (As := [.int (iI (x))]) (rest := []) CP_mv ⟨hx, hb, hml, hown, hts⟩ (c_requirePlace l D cI base st Z x0 x1 x2 x5 x6 x7 hn hF x hxr rp hrp h0) (cwV 1 hts gX0_putBehind_X0_requirePlace rfl rfl rfl (by decide +kernel) ⟨(Nat.le_of_ble_eq_true rfl), (Nat.le_of_ble_eq_true rfl)⟩) hCP (CP_rc hCP) rfl rfl hl.1 (Nat.le_of_ble_eq_true rfl) dX0_putBehind_2 ⟨Nat.zero_le _, Nat.zero_le _⟩ ?_
  refine lv_istore_n (lv' := [(2, .int (iI (rp))), (0, .ref x0), (1, .int (iI (x)))]) hx hb dX0_putBehind_5 rfl hl (by decide) rfl (fun ls hl => ?_)
  refine lv_aload_n hx hb dX0_putBehind_6 rfl (lv_at hl 1 rfl) ?_
  refine th_callV (As := []) (rest := []) CP_mv ⟨hx, hb, hml, hown, hts⟩ (t_requireThatOneMayCome l D cI base st Z x0 x1 x2 x5 x6 x7 hfl hn hcm hfr) (cwV 0 hts gX0_putBehind_X0_requireThatOneMayCome rfl rfl rfl (by decide +kernel) ⟨(Nat.le_of_ble_eq_true rfl), (Nat.le_of_ble_eq_true rfl)⟩) hCP (CP_rc hCP) rfl rfl hl.1 (Nat.le_of_ble_eq_true rfl) dX0_putBehind_7 ⟨(Nat.le_of_ble_eq_true rfl), (Nat.le_of_ble_eq_true rfl)⟩ (fun H1 ce q9 h1 h2 h3 h4 h5 => ?_)
  exact th_out hno hlocks h1 h2 h3 h4 h5
set_option maxHeartbeats 4000000 in
set_option maxRecDepth 100000 in
theorem c_takeOut (l : Launch) (D : va_G) (cI : ClassId) (base st : Nat) (Z : Nat → Nat) (x0 x1 x2 x5 x6 x7 : Nat) {n came MV : Int} {F G SP RF RC : Int → Int} (hn : 0 ≤ n ∧ n ≤ 60) (hF : ∀ k : Int, 0 ≤ k → k < n → 0 ≤ F k ∧ F k < 200) (hRF : ∀ k : Int, 0 ≤ k → k < 4 → -1 ≤ RF k ∧ RF k < 200) (x : Int) (hxr : (-2147483648 ≤ x ∧ x ≤ 2147483647)) (rp : Int) (hrp : PL F n x rp) (h0 : 0 ≤ rp) : mu_M l yX0_takeOut wsX0_takeOut ({ frames := 3, cells := 0, slots := 0, locals := 66 } : Room) [.ref x0, .int (iI (x))] (CP D cI base st Z x0 x1 x2 x5 x6 x7 n came MV F G SP RF RC) (some (.int (iI (n - 1)))) ((fun H => CW D cI base x0 x1 x2 x5 x6 x7 (n - 1) (came) (MV) (remF F rp) (remF G rp) (SP) (sendF RF x (fa F n (rp + 1))) (RC) H)) (mC x0 x1 x2 x5 x6 x7) := by
  refine mu_of (cc := cX0_takeOut) (maxL := 3) (ret := (some .int)) (own := RX0) (by decide) rfl rfl (Nat.le_of_ble_eq_true rfl) ?_
  intro p e s m below meth c ls B hCP hl hS
  obtain ⟨hx, hb, hml, hr, hts, hown, hlocks⟩ := B
  obtain ⟨⟨hK, hZL, ⟨hstb, xs, hXL, hAL⟩, hTW⟩, f, g, sp, rf, rc, hAf, hAg, hAsp, hArf, hArc, hP, hDb⟩ := id hCP
  have hD := CW_mD hDb
  have hmb := mC_b hDb
  have hbl := CW_lt hCP.2
  have hSW0 := hCP.1
  have hl : lv_has ls 3 [(0, .ref x0), (1, .int (iI (x)))] := hl
  have hin : ∀ w ∈ u_ws RX0 TX0 8, w ∈ wsX0_takeOut := by decide +kernel
  have q_count := hts (.fieldLink RX0 53 "ShelfMarks" "count" "I") (by decide +kernel)
  refine lv_aload_n hx hb dX0_takeOut_0 rfl (lv_at hl 0 rfl) ?_
  refine lv_iload_n hx hb dX0_takeOut_1 rfl (lv_at hl 1 rfl) ?_
  have hpr := PL_rg hn.1 hrp
  have hxx := PL_x hF h0 hrp
  have hCP : CP D cI base st Z x0 x1 x2 x5 x6 x7 (n) (came) (MV) (F) (G) (SP) (RF) (RC) s s.heap := ⟨hSW0.behind hbl hmb hS, ⟨f, g, sp, rf, rc, hAf, hAg, hAsp, hArf, hArc, hP, hD.weaken (fun _ _ _ h => hmb _ h)⟩⟩
  refine pu_callV (v := rp) (As := [.int (iI (x))]) (rest := []) CP_mv ⟨hx, hb, hml, hown, hts⟩ (c_requirePlace l D cI base st Z x0 x1 x2 x5 x6 x7 hn hF x hxr rp hrp h0) (cwV 1 hts gX0_takeOut_X0_requirePlace rfl rfl rfl (by decide +kernel) ⟨(Nat.le_of_ble_eq_true rfl), (Nat.le_of_ble_eq_true rfl)⟩) hCP (CP_rc hCP) rfl rfl hl.1 (Nat.le_of_ble_eq_true rfl) dX0_takeOut_2 ⟨Nat.zero_le _, Nat.zero_le _⟩ ?_
  refine lv_istore_n (lv' := [(2, .int (iI (rp))), (0, .ref x0), (1, .int (iI (x)))]) hx hb dX0_takeOut_5 rfl hl (by decide) rfl (fun ls hl => ?_)
  refine lv_aload_n hx hb dX0_takeOut_6 rfl (lv_at hl 1 rfl) ?_
  refine lv_iload_n hx hb dX0_takeOut_7 rfl (lv_at hl 2 rfl) ?_
  refine lv_aload_n hx hb dX0_takeOut_8 rfl (lv_at hl 1 rfl) ?_
  refine lv_iload_n hx hb dX0_takeOut_9 rfl (lv_at hl 0 rfl) ?_
  refine pv_iconst hx hb dX0_takeOut_10 ?_
  refine pv_iadd hx hb dX0_takeOut_11 ?_
  have hCP : CP D cI base st Z x0 x1 x2 x5 x6 x7 (n) (came) (MV) (F) (G) (SP) (RF) (RC) s s.heap := ⟨hSW0.behind hbl hmb hS, ⟨f, g, sp, rf, rc, hAf, hAg, hAsp, hArf, hArc, hP, hD.weaken (fun _ _ _ h => hmb _ h)⟩⟩
  refine pu_callV (v := fa F n (rp + 1)) (As := [.int (iI ((rp) + (1)))]) (rest := [.int (iI (x)), .ref x0]) CP_mv ⟨hx, hb, hml, hown, hts⟩ (c_folderAt l D cI base st Z x0 x1 x2 x5 x6 x7 hn (rp + 1) (by omega) _ rfl) (cwV 1 hts gX0_takeOut_X0_folderAt rfl rfl rfl (by decide +kernel) ⟨(Nat.le_of_ble_eq_true rfl), (Nat.le_of_ble_eq_true rfl)⟩) hCP (CP_rc hCP) rfl rfl hl.1 (Nat.le_of_ble_eq_true rfl) dX0_takeOut_12 ⟨Nat.zero_le _, Nat.zero_le _⟩ ?_
  have hCP : CP D cI base st Z x0 x1 x2 x5 x6 x7 (n) (came) (MV) (F) (G) (SP) (RF) (RC) s s.heap := ⟨hSW0.behind hbl hmb hS, ⟨f, g, sp, rf, rc, hAf, hAg, hAsp, hArf, hArc, hP, hD.weaken (fun _ _ _ h => hmb _ h)⟩⟩
  refine mu_callV (As := [.int (iI (x)), .int (iI (fa F n (rp + 1)))]) (rest := []) CP_mv ⟨hx, hb, hml, hown, hts⟩ (c_sendReadersOn l D cI base st Z x0 x1 x2 x5 x6 x7 hRF x (fa F n (rp + 1)) hxx) (cwV 2 hts gX0_takeOut_X0_sendReadersOn rfl rfl rfl (by decide +kernel) ⟨(Nat.le_of_ble_eq_true rfl), (Nat.le_of_ble_eq_true rfl)⟩) hCP (CP_rc hCP) rfl rfl hl.1 (Nat.le_of_ble_eq_true rfl) dX0_takeOut_15 ⟨Nat.zero_le _, Nat.zero_le _⟩ hS (fun _ h => h) (fun H locs hC9 hz9 hk9 hS => ?_)
  have hC9 : CW D cI base x0 x1 x2 x5 x6 x7 (n) (came) (MV) (F) (G) (SP) (sendF RF x (fa F n (rp + 1))) (RC) H := hC9
  obtain ⟨f, g, sp, rf, rc, hAf, hAg, hAsp, hArf, hArc, hP, hDb⟩ := hC9
  have hD := CW_mD hDb
  refine lv_aload_n hx hb dX0_takeOut_18 rfl (lv_at hl 1 rfl) ?_
  refine lv_iload_n hx hb dX0_takeOut_19 rfl (lv_at hl 0 rfl) ?_
  have hCP : CP D cI base st Z x0 x1 x2 x5 x6 x7 (n) (came) (MV) (F) (G) (SP) (sendF RF x (fa F n (rp + 1))) (RC) s H := ⟨hSW0.behind hbl hmb hS, ⟨f, g, sp, rf, rc, hAf, hAg, hAsp, hArf, hArc, hP, hD.weaken (fun _ _ _ h => hmb _ h)⟩⟩
  refine mu_callV (As := [.int (iI (rp))]) (rest := []) CP_mv ⟨hx, hb, hml, hown, hts⟩ (c_removeAt l D cI base st Z x0 x1 x2 x5 x6 x7 hn rp (by omega)) (cwV 1 hts gX0_takeOut_X0_removeAt rfl rfl rfl (by decide +kernel) ⟨(Nat.le_of_ble_eq_true rfl), (Nat.le_of_ble_eq_true rfl)⟩) hCP (CP_rc hCP) rfl rfl hl.1 (Nat.le_of_ble_eq_true rfl) dX0_takeOut_20 ⟨Nat.zero_le _, Nat.zero_le _⟩ hS (fun _ h => h) (fun H locs hC9 hz9 hk9 hS => ?_)
  have hC9 : CW D cI base x0 x1 x2 x5 x6 x7 (n - 1) (came) (MV) (remF F rp) (remF G rp) (SP) (sendF RF x (fa F n (rp + 1))) (RC) H := hC9
  obtain ⟨f, g, sp, rf, rc, hAf, hAg, hAsp, hArf, hArc, hP, hDb⟩ := hC9
  have hD := CW_mD hDb
  refine lv_aload_n hx hb dX0_takeOut_23 rfl (lv_at hl 1 rfl) ?_
  refine va_get (D := D) (ci := 0) (v := .int (iI (n - 1))) (C := RX0) (T := TX0) (N := 8) hx hb hts hin hown hK hP 0 rfl rfl 2 (by decide) q_count (fun _ h9 => h9) rfl dX0_takeOut_24 ?_
  exact mu_iret hx hb hr hlocks hS dX0_takeOut_27 (by rfl) ⟨f, g, sp, rf, rc, hAf, hAg, hAsp, hArf, hArc, hP, hD.weaken (fun _ _ _ h => hmb _ h)⟩
set_option maxHeartbeats 4000000 in
set_option maxRecDepth 100000 in
theorem t_takeOut (l : Launch) (D : va_G) (cI : ClassId) (base st : Nat) (Z : Nat → Nat) (x0 x1 x2 x5 x6 x7 : Nat) {n came MV : Int} {F G SP RF RC : Int → Int} (hfl : l.stackTraces = false) (hn : 0 ≤ n ∧ n ≤ 60) (hF : ∀ k : Int, 0 ≤ k → k < n → 0 ≤ F k ∧ F k < 200) (x : Int) (hxr : (-2147483648 ≤ x ∧ x ≤ 2147483647)) (hrp : PL F n x (-1)) : th_M l yX0_takeOut wsX0_takeOut ({ frames := 7, cells := 1, slots := 6, locals := 114 } : Room) [.ref x0, .int (iI (x))] (CP D cI base st Z x0 x1 x2 x5 x6 x7 n came MV F G SP RF RC) "java/lang/IndexOutOfBoundsException" := by
  refine th_of (cc := cX0_takeOut) (maxL := 3) (ret := (some .int)) (own := RX0) (by decide) rfl rfl (Nat.le_of_ble_eq_true rfl) ?_
  intro p e s m below meth c ls B hno hCP hl
  obtain ⟨hx, hb, hml, hr, hts, hown, hlocks⟩ := B
  obtain ⟨⟨hK, hZL, ⟨hstb, xs, hXL, hAL⟩, hTW⟩, f, g, sp, rf, rc, hAf, hAg, hAsp, hArf, hArc, hP, hDb⟩ := id hCP
  have hl : lv_has ls 3 [(0, .ref x0), (1, .int (iI (x)))] := hl
  refine lv_aload_n hx hb dX0_takeOut_0 rfl (lv_at hl 0 rfl) ?_
  refine lv_iload_n hx hb dX0_takeOut_1 rfl (lv_at hl 1 rfl) ?_
  refine th_callV (As := [.int (iI (x))]) (rest := []) CP_mv ⟨hx, hb, hml, hown, hts⟩ (t_requirePlace l D cI base st Z x0 x1 x2 x5 x6 x7 hfl hn hF x hxr hrp) (cwV 1 hts gX0_takeOut_X0_requirePlace rfl rfl rfl (by decide +kernel) ⟨(Nat.le_of_ble_eq_true rfl), (Nat.le_of_ble_eq_true rfl)⟩) hCP (CP_rc hCP) rfl rfl hl.1 (Nat.le_of_ble_eq_true rfl) dX0_takeOut_2 ⟨(Nat.le_of_ble_eq_true rfl), (Nat.le_of_ble_eq_true rfl)⟩ (fun H1 ce q9 h1 h2 h3 h4 h5 => ?_)
  exact th_out hno hlocks h1 h2 h3 h4 h5
set_option maxHeartbeats 4000000 in
set_option maxRecDepth 100000 in
theorem c_carry (l : Launch) (D : va_G) (cI : ClassId) (base st : Nat) (Z : Nat → Nat) (x0 x1 x2 x5 x6 x7 : Nat) {n came MV : Int} {F G SP RF RC : Int → Int} (hn : 0 ≤ n ∧ n ≤ 60) (hF : ∀ k : Int, 0 ≤ k → k < n → 0 ≤ F k ∧ F k < 200) (hG : ∀ k : Int, 0 ≤ k → k < n → 0 ≤ G k ∧ G k ≤ 255) (hs : SD G n) (x : Int) (hxr : (-2147483648 ≤ x ∧ x ≤ 2147483647)) (rp : Int) (hrp : PL F n x rp) (h0 : 0 ≤ rp) (y : Int) (hyr : (-2147483648 ≤ y ∧ y ≤ 2147483647)) (ro : Int) (hro : PL F n y ro) (h1 : 0 ≤ ro) (hne : x ≠ y) (rq : Int) (hrq : PL (remF F rp) (n - 1) y rq) (h2 : 0 ≤ rq) (hG1 : ∀ k : Int, 0 ≤ k → k < n - 1 → 0 ≤ remF G rp k ∧ remF G rp k ≤ 255) (hs1 : SD (remF G rp) (n - 1)) (hF1 : ∀ k : Int, 0 ≤ k → k < n - 1 → 0 ≤ remF F rp k ∧ remF F rp k < 200) (G2 : Int → Int) (dm : Int) (SP2 : Int → Int) (hPT : PT (remF G rp) (n - 1) (rq + 1) SP G2 dm SP2) (hF2 : ∀ k : Int, 0 ≤ k → k < n → 0 ≤ insF (remF F rp) (rq + 1) x k ∧ insF (remF F rp) (rq + 1) x k < 200) (hrz : PL (insF (remF F rp) (rq + 1) x) n x (rq + 1)) : mu_M l yX0_carry wsX0_carry ({ frames := 6, cells := 0, slots := 0, locals := 139 } : Room) [.ref x0, .int (iI (x)), .int (iI (y))] (CP D cI base st Z x0 x1 x2 x5 x6 x7 n came MV F G SP RF RC) (some (.int (iI (G2 (rq + 1))))) ((fun H => CW D cI base x0 x1 x2 x5 x6 x7 (n - 1 + 1) (came) (MV + dm) (insF (remF F rp) (rq + 1) x) (G2) (SP2) (RF) (RC) H)) (mC x0 x1 x2 x5 x6 x7) := by
  refine mu_of (cc := cX0_carry) (maxL := 4) (ret := (some .int)) (own := RX0) (by decide) rfl rfl (Nat.le_of_ble_eq_true rfl) ?_
  intro p e s m below meth c ls B hCP hl hS
  obtain ⟨hx, hb, hml, hr, hts, hown, hlocks⟩ := B
  obtain ⟨⟨hK, hZL, ⟨hstb, xs, hXL, hAL⟩, hTW⟩, f, g, sp, rf, rc, hAf, hAg, hAsp, hArf, hArc, hP, hDb⟩ := id hCP
  have hD := CW_mD hDb
  have hmb := mC_b hDb
  have hbl := CW_lt hCP.2
  have hSW0 := hCP.1
  have hl : lv_has ls 4 [(0, .ref x0), (1, .int (iI (x))), (2, .int (iI (y)))] := hl
  refine lv_aload_n hx hb dX0_carry_0 rfl (lv_at hl 0 rfl) ?_
  refine lv_iload_n hx hb dX0_carry_1 rfl (lv_at hl 1 rfl) ?_
  have hpr := PL_rg hn.1 hrp
  have hpo := PL_rg hn.1 hro
  have hpq := PL_rg (n := n - 1) (by omega) hrq
  have hCP : CP D cI base st Z x0 x1 x2 x5 x6 x7 (n) (came) (MV) (F) (G) (SP) (RF) (RC) s s.heap := ⟨hSW0.behind hbl hmb hS, ⟨f, g, sp, rf, rc, hAf, hAg, hAsp, hArf, hArc, hP, hD.weaken (fun _ _ _ h => hmb _ h)⟩⟩
  refine pu_callV (v := rp) (As := [.int (iI (x))]) (rest := []) CP_mv ⟨hx, hb, hml, hown, hts⟩ (c_requirePlace l D cI base st Z x0 x1 x2 x5 x6 x7 hn hF x hxr rp hrp h0) (cwV 1 hts gX0_carry_X0_requirePlace rfl rfl rfl (by decide +kernel) ⟨(Nat.le_of_ble_eq_true rfl), (Nat.le_of_ble_eq_true rfl)⟩) hCP (CP_rc hCP) rfl rfl hl.1 (Nat.le_of_ble_eq_true rfl) dX0_carry_2 ⟨Nat.zero_le _, Nat.zero_le _⟩ ?_
  refine lv_istore_n (lv' := [(3, .int (iI (rp))), (0, .ref x0), (1, .int (iI (x))), (2, .int (iI (y)))]) hx hb dX0_carry_5 rfl hl (by decide) rfl (fun ls hl => ?_)
  refine lv_aload_n hx hb dX0_carry_6 rfl (lv_at hl 1 rfl) ?_
  refine lv_iload_n hx hb dX0_carry_7 rfl (lv_at hl 3 rfl) ?_
  have hCP : CP D cI base st Z x0 x1 x2 x5 x6 x7 (n) (came) (MV) (F) (G) (SP) (RF) (RC) s s.heap := ⟨hSW0.behind hbl hmb hS, ⟨f, g, sp, rf, rc, hAf, hAg, hAsp, hArf, hArc, hP, hD.weaken (fun _ _ _ h => hmb _ h)⟩⟩
  refine pu_callV (v := ro) (As := [.int (iI (y))]) (rest := []) CP_mv ⟨hx, hb, hml, hown, hts⟩ (c_requirePlace l D cI base st Z x0 x1 x2 x5 x6 x7 hn hF y hyr ro hro h1) (cwV 1 hts gX0_carry_X0_requirePlace rfl rfl rfl (by decide +kernel) ⟨(Nat.le_of_ble_eq_true rfl), (Nat.le_of_ble_eq_true rfl)⟩) hCP (CP_rc hCP) rfl rfl hl.1 (Nat.le_of_ble_eq_true rfl) dX0_carry_8 ⟨Nat.zero_le _, Nat.zero_le _⟩ ?_
  refine lv_pop hx hb dX0_carry_11 rfl ?_
  refine lv_iload_n hx hb dX0_carry_12 rfl (lv_at hl 2 rfl) ?_
  refine lv_iload_n hx hb dX0_carry_13 rfl (lv_at hl 3 rfl) ?_
  refine pv_icmp_ne (tgt := 27) hx hb dX0_carry_14 (by decide) (by omega) (fun c_14 => ?_) (fun c_14 => ?_)
  · -- 14t
    refine lv_aload_n hx hb dX0_carry_27 rfl (lv_at hl 1 rfl) ?_
    refine lv_iload_n hx hb dX0_carry_28 rfl (lv_at hl 0 rfl) ?_
    have hCP : CP D cI base st Z x0 x1 x2 x5 x6 x7 (n) (came) (MV) (F) (G) (SP) (RF) (RC) s s.heap := ⟨hSW0.behind hbl hmb hS, ⟨f, g, sp, rf, rc, hAf, hAg, hAsp, hArf, hArc, hP, hD.weaken (fun _ _ _ h => hmb _ h)⟩⟩
    refine mu_callV (As := [.int (iI (rp))]) (rest := []) CP_mv ⟨hx, hb, hml, hown, hts⟩ (c_removeAt l D cI base st Z x0 x1 x2 x5 x6 x7 hn rp (by omega)) (cwV 1 hts gX0_carry_X0_removeAt rfl rfl rfl (by decide +kernel) ⟨(Nat.le_of_ble_eq_true rfl), (Nat.le_of_ble_eq_true rfl)⟩) hCP (CP_rc hCP) rfl rfl hl.1 (Nat.le_of_ble_eq_true rfl) dX0_carry_29 ⟨Nat.zero_le _, Nat.zero_le _⟩ hS (fun _ h => h) (fun H locs hC9 hz9 hk9 hS => ?_)
    have hC9 : CW D cI base x0 x1 x2 x5 x6 x7 (n - 1) (came) (MV) (remF F rp) (remF G rp) (SP) (RF) (RC) H := hC9
    obtain ⟨f, g, sp, rf, rc, hAf, hAg, hAsp, hArf, hArc, hP, hDb⟩ := hC9
    have hD := CW_mD hDb
    refine lv_aload_n hx hb dX0_carry_32 rfl (lv_at hl 1 rfl) ?_
    refine lv_iload_n hx hb dX0_carry_33 rfl (lv_at hl 2 rfl) ?_
    refine lv_aload_n hx hb dX0_carry_34 rfl (lv_at hl 1 rfl) ?_
    refine lv_iload_n hx hb dX0_carry_35 rfl (lv_at hl 3 rfl) ?_
    have hCP : CP D cI base st Z x0 x1 x2 x5 x6 x7 (n - 1) (came) (MV) (remF F rp) (remF G rp) (SP) (RF) (RC) s H := ⟨hSW0.behind hbl hmb hS, ⟨f, g, sp, rf, rc, hAf, hAg, hAsp, hArf, hArc, hP, hD.weaken (fun _ _ _ h => hmb _ h)⟩⟩
    refine pu_callV (v := rq) (As := [.int (iI (y))]) (rest := [.int (iI (x)), .ref x0]) CP_mv ⟨hx, hb, hml, hown, hts⟩ (c_placeOf l D cI base st Z x0 x1 x2 x5 x6 x7 (by omega) hF1 y hyr rq hrq) (cwV 1 hts gX0_carry_X0_placeOf rfl rfl rfl (by decide +kernel) ⟨(Nat.le_of_ble_eq_true rfl), (Nat.le_of_ble_eq_true rfl)⟩) hCP (CP_rc hCP) rfl rfl hl.1 (Nat.le_of_ble_eq_true rfl) dX0_carry_36 ⟨Nat.zero_le _, Nat.zero_le _⟩ ?_
    refine pv_iconst hx hb dX0_carry_39 ?_
    refine pv_iadd hx hb dX0_carry_40 ?_
    have hCP : CP D cI base st Z x0 x1 x2 x5 x6 x7 (n - 1) (came) (MV) (remF F rp) (remF G rp) (SP) (RF) (RC) s H := ⟨hSW0.behind hbl hmb hS, ⟨f, g, sp, rf, rc, hAf, hAg, hAsp, hArf, hArc, hP, hD.weaken (fun _ _ _ h => hmb _ h)⟩⟩
    refine mu_callV (As := [.int (iI (x)), .int (iI ((rq) + (1)))]) (rest := []) CP_mv ⟨hx, hb, hml, hown, hts⟩ (c_putIn l D cI base st Z x0 x1 x2 x5 x6 x7 (by omega) hG1 hs1 x (rq + 1) (by omega) G2 dm SP2 hPT) (cwV 2 hts gX0_carry_X0_putIn rfl rfl rfl (by decide +kernel) ⟨(Nat.le_of_ble_eq_true rfl), (Nat.le_of_ble_eq_true rfl)⟩) hCP (CP_rc hCP) rfl rfl hl.1 (Nat.le_of_ble_eq_true rfl) dX0_carry_41 ⟨Nat.zero_le _, Nat.zero_le _⟩ hS (fun _ h => h) (fun H locs hC9 hz9 hk9 hS => ?_)
    have hC9 : CW D cI base x0 x1 x2 x5 x6 x7 (n - 1 + 1) (came) (MV + dm) (insF (remF F rp) (rq + 1) x) (G2) (SP2) (RF) (RC) H := hC9
    obtain ⟨f, g, sp, rf, rc, hAf, hAg, hAsp, hArf, hArc, hP, hDb⟩ := hC9
    have hD := CW_mD hDb
    refine lv_aload_n hx hb dX0_carry_44 rfl (lv_at hl 1 rfl) ?_
    refine lv_aload_n hx hb dX0_carry_45 rfl (lv_at hl 1 rfl) ?_
    refine lv_iload_n hx hb dX0_carry_46 rfl (lv_at hl 2 rfl) ?_
    have hCP : CP D cI base st Z x0 x1 x2 x5 x6 x7 (n - 1 + 1) (came) (MV + dm) (insF (remF F rp) (rq + 1) x) (G2) (SP2) (RF) (RC) s H := ⟨hSW0.behind hbl hmb hS, ⟨f, g, sp, rf, rc, hAf, hAg, hAsp, hArf, hArc, hP, hD.weaken (fun _ _ _ h => hmb _ h)⟩⟩
    refine pu_callV (v := rq + 1) (As := [.int (iI (x))]) (rest := [.ref x0]) CP_mv ⟨hx, hb, hml, hown, hts⟩ (c_placeOf l D cI base st Z x0 x1 x2 x5 x6 x7 (by omega) (by rw [show n - 1 + 1 = n by omega]; exact hF2) x hxr (rq + 1) (by rw [show n - 1 + 1 = n by omega]; exact hrz)) (cwV 1 hts gX0_carry_X0_placeOf rfl rfl rfl (by decide +kernel) ⟨(Nat.le_of_ble_eq_true rfl), (Nat.le_of_ble_eq_true rfl)⟩) hCP (CP_rc hCP) rfl rfl hl.1 (Nat.le_of_ble_eq_true rfl) dX0_carry_47 ⟨Nat.zero_le _, Nat.zero_le _⟩ ?_
    have hCP : CP D cI base st Z x0 x1 x2 x5 x6 x7 (n - 1 + 1) (came) (MV + dm) (insF (remF F rp) (rq + 1) x) (G2) (SP2) (RF) (RC) s H := ⟨hSW0.behind hbl hmb hS, ⟨f, g, sp, rf, rc, hAf, hAg, hAsp, hArf, hArc, hP, hD.weaken (fun _ _ _ h => hmb _ h)⟩⟩
    refine pu_callV (v := G2 (rq + 1)) (As := [.int (iI (rq + 1))]) (rest := []) CP_mv ⟨hx, hb, hml, hown, hts⟩ (c_markAt l D cI base st Z x0 x1 x2 x5 x6 x7 (by omega) (rq + 1) (by omega) _ (ma_in (by omega))) (cwV 1 hts gX0_carry_X0_markAt rfl rfl rfl (by decide +kernel) ⟨(Nat.le_of_ble_eq_true rfl), (Nat.le_of_ble_eq_true rfl)⟩) hCP (CP_rc hCP) rfl rfl hl.1 (Nat.le_of_ble_eq_true rfl) dX0_carry_50 ⟨Nat.zero_le _, Nat.zero_le _⟩ ?_
    exact mu_iret hx hb hr hlocks hS dX0_carry_53 (by rfl) ⟨f, g, sp, rf, rc, hAf, hAg, hAsp, hArf, hArc, hP, hD.weaken (fun _ _ _ h => hmb _ h)⟩
  · exact absurd c_14 (by omega)
set_option maxHeartbeats 4000000 in
set_option maxRecDepth 100000 in
theorem t_carry (l : Launch) (D : va_G) (cI : ClassId) (base st : Nat) (Z : Nat → Nat) (x0 x1 x2 x5 x6 x7 : Nat) {n came MV : Int} {F G SP RF RC : Int → Int} (hfl : l.stackTraces = false) (hn : 0 ≤ n ∧ n ≤ 60) (hF : ∀ k : Int, 0 ≤ k → k < n → 0 ≤ F k ∧ F k < 200) (x : Int) (hxr : (-2147483648 ≤ x ∧ x ≤ 2147483647)) (hrp : PL F n x (-1)) (y : Int) : th_M l yX0_carry wsX0_carry ({ frames := 7, cells := 1, slots := 6, locals := 114 } : Room) [.ref x0, .int (iI (x)), .int (iI (y))] (CP D cI base st Z x0 x1 x2 x5 x6 x7 n came MV F G SP RF RC) "java/lang/IndexOutOfBoundsException" := by
  refine th_of (cc := cX0_carry) (maxL := 4) (ret := (some .int)) (own := RX0) (by decide) rfl rfl (Nat.le_of_ble_eq_true rfl) ?_
  intro p e s m below meth c ls B hno hCP hl
  obtain ⟨hx, hb, hml, hr, hts, hown, hlocks⟩ := B
  obtain ⟨⟨hK, hZL, ⟨hstb, xs, hXL, hAL⟩, hTW⟩, f, g, sp, rf, rc, hAf, hAg, hAsp, hArf, hArc, hP, hDb⟩ := id hCP
  have hl : lv_has ls 4 [(0, .ref x0), (1, .int (iI (x))), (2, .int (iI (y)))] := hl
  refine lv_aload_n hx hb dX0_carry_0 rfl (lv_at hl 0 rfl) ?_
  refine lv_iload_n hx hb dX0_carry_1 rfl (lv_at hl 1 rfl) ?_
  refine th_callV (As := [.int (iI (x))]) (rest := []) CP_mv ⟨hx, hb, hml, hown, hts⟩ (t_requirePlace l D cI base st Z x0 x1 x2 x5 x6 x7 hfl hn hF x hxr hrp) (cwV 1 hts gX0_carry_X0_requirePlace rfl rfl rfl (by decide +kernel) ⟨(Nat.le_of_ble_eq_true rfl), (Nat.le_of_ble_eq_true rfl)⟩) hCP (CP_rc hCP) rfl rfl hl.1 (Nat.le_of_ble_eq_true rfl) dX0_carry_2 ⟨(Nat.le_of_ble_eq_true rfl), (Nat.le_of_ble_eq_true rfl)⟩ (fun H1 ce q9 h1 h2 h3 h4 h5 => ?_)
  exact th_out hno hlocks h1 h2 h3 h4 h5
set_option maxHeartbeats 4000000 in
set_option maxRecDepth 100000 in
theorem t_carry2 (l : Launch) (D : va_G) (cI : ClassId) (base st : Nat) (Z : Nat → Nat) (x0 x1 x2 x5 x6 x7 : Nat) {n came MV : Int} {F G SP RF RC : Int → Int} (hfl : l.stackTraces = false) (hn : 0 ≤ n ∧ n ≤ 60) (hF : ∀ k : Int, 0 ≤ k → k < n → 0 ≤ F k ∧ F k < 200) (x : Int) (hxr : (-2147483648 ≤ x ∧ x ≤ 2147483647)) (rp : Int) (hrp : PL F n x rp) (h0 : 0 ≤ rp) (y : Int) (hyr : (-2147483648 ≤ y ∧ y ≤ 2147483647)) (hro : PL F n y (-1)) : th_M l yX0_carry wsX0_carry ({ frames := 7, cells := 1, slots := 6, locals := 114 } : Room) [.ref x0, .int (iI (x)), .int (iI (y))] (CP D cI base st Z x0 x1 x2 x5 x6 x7 n came MV F G SP RF RC) "java/lang/IndexOutOfBoundsException" := by
  refine th_of (cc := cX0_carry) (maxL := 4) (ret := (some .int)) (own := RX0) (by decide) rfl rfl (Nat.le_of_ble_eq_true rfl) ?_
  intro p e s m below meth c ls B hno hCP hl
  obtain ⟨hx, hb, hml, hr, hts, hown, hlocks⟩ := B
  obtain ⟨⟨hK, hZL, ⟨hstb, xs, hXL, hAL⟩, hTW⟩, f, g, sp, rf, rc, hAf, hAg, hAsp, hArf, hArc, hP, hDb⟩ := id hCP
  have hl : lv_has ls 4 [(0, .ref x0), (1, .int (iI (x))), (2, .int (iI (y)))] := hl
  refine lv_aload_n hx hb dX0_carry_0 rfl (lv_at hl 0 rfl) ?_
  refine lv_iload_n hx hb dX0_carry_1 rfl (lv_at hl 1 rfl) ?_
  refine pu_callV (v := rp) (As := [.int (iI (x))]) (rest := []) CP_mv ⟨hx, hb, hml, hown, hts⟩ (c_requirePlace l D cI base st Z x0 x1 x2 x5 x6 x7 hn hF x hxr rp hrp h0) (cwV 1 hts gX0_carry_X0_requirePlace rfl rfl rfl (by decide +kernel) ⟨(Nat.le_of_ble_eq_true rfl), (Nat.le_of_ble_eq_true rfl)⟩) hCP (CP_rc hCP) rfl rfl hl.1 (Nat.le_of_ble_eq_true rfl) dX0_carry_2 ⟨Nat.zero_le _, Nat.zero_le _⟩ ?_
  refine lv_istore_n (lv' := [(3, .int (iI (rp))), (0, .ref x0), (1, .int (iI (x))), (2, .int (iI (y)))]) hx hb dX0_carry_5 rfl hl (by decide) rfl (fun ls hl => ?_)
  refine lv_aload_n hx hb dX0_carry_6 rfl (lv_at hl 1 rfl) ?_
  refine lv_iload_n hx hb dX0_carry_7 rfl (lv_at hl 3 rfl) ?_
  refine th_callV (As := [.int (iI (y))]) (rest := []) CP_mv ⟨hx, hb, hml, hown, hts⟩ (t_requirePlace l D cI base st Z x0 x1 x2 x5 x6 x7 hfl hn hF y hyr hro) (cwV 1 hts gX0_carry_X0_requirePlace rfl rfl rfl (by decide +kernel) ⟨(Nat.le_of_ble_eq_true rfl), (Nat.le_of_ble_eq_true rfl)⟩) hCP (CP_rc hCP) rfl rfl hl.1 (Nat.le_of_ble_eq_true rfl) dX0_carry_8 ⟨(Nat.le_of_ble_eq_true rfl), (Nat.le_of_ble_eq_true rfl)⟩ (fun H1 ce q9 h1 h2 h3 h4 h5 => ?_)
  exact th_out hno hlocks h1 h2 h3 h4 h5
set_option maxHeartbeats 4000000 in
set_option maxRecDepth 100000 in
theorem t_carry3 (l : Launch) (D : va_G) (cI : ClassId) (base st : Nat) (Z : Nat → Nat) (x0 x1 x2 x5 x6 x7 : Nat) {n came MV : Int} {F G SP RF RC : Int → Int} (hfl : l.stackTraces = false) (hn : 0 ≤ n ∧ n ≤ 60) (hF : ∀ k : Int, 0 ≤ k → k < n → 0 ≤ F k ∧ F k < 200) (x : Int) (hxr : (-2147483648 ≤ x ∧ x ≤ 2147483647)) (rp : Int) (hrp : PL F n x rp) (h0 : 0 ≤ rp) : th_M l yX0_carry wsX0_carry ({ frames := 6, cells := 1, slots := 6, locals := 92 } : Room) [.ref x0, .int (iI (x)), .int (iI (x))] (CP D cI base st Z x0 x1 x2 x5 x6 x7 n came MV F G SP RF RC) "java/lang/IllegalArgumentException" := by
  refine th_of (cc := cX0_carry) (maxL := 4) (ret := (some .int)) (own := RX0) (by decide) rfl rfl (Nat.le_of_ble_eq_true rfl) ?_
  intro p e s m below meth c ls B hno hCP hl
  obtain ⟨hx, hb, hml, hr, hts, hown, hlocks⟩ := B
  obtain ⟨⟨hK, hZL, ⟨hstb, xs, hXL, hAL⟩, hTW⟩, f, g, sp, rf, rc, hAf, hAg, hAsp, hArf, hArc, hP, hDb⟩ := id hCP
  have hl : lv_has ls 4 [(0, .ref x0), (1, .int (iI (x))), (2, .int (iI (x)))] := hl
  refine lv_aload_n hx hb dX0_carry_0 rfl (lv_at hl 0 rfl) ?_
  refine lv_iload_n hx hb dX0_carry_1 rfl (lv_at hl 1 rfl) ?_
  refine pu_callV (v := rp) (As := [.int (iI (x))]) (rest := []) CP_mv ⟨hx, hb, hml, hown, hts⟩ (c_requirePlace l D cI base st Z x0 x1 x2 x5 x6 x7 hn hF x hxr rp hrp h0) (cwV 1 hts gX0_carry_X0_requirePlace rfl rfl rfl (by decide +kernel) ⟨(Nat.le_of_ble_eq_true rfl), (Nat.le_of_ble_eq_true rfl)⟩) hCP (CP_rc hCP) rfl rfl hl.1 (Nat.le_of_ble_eq_true rfl) dX0_carry_2 ⟨Nat.zero_le _, Nat.zero_le _⟩ ?_
  refine lv_istore_n (lv' := [(3, .int (iI (rp))), (0, .ref x0), (1, .int (iI (x))), (2, .int (iI (x)))]) hx hb dX0_carry_5 rfl hl (by decide) rfl (fun ls hl => ?_)
  refine lv_aload_n hx hb dX0_carry_6 rfl (lv_at hl 1 rfl) ?_
  refine lv_iload_n hx hb dX0_carry_7 rfl (lv_at hl 3 rfl) ?_
  refine pu_callV (v := rp) (As := [.int (iI (x))]) (rest := []) CP_mv ⟨hx, hb, hml, hown, hts⟩ (c_requirePlace l D cI base st Z x0 x1 x2 x5 x6 x7 hn hF x hxr rp hrp h0) (cwV 1 hts gX0_carry_X0_requirePlace rfl rfl rfl (by decide +kernel) ⟨(Nat.le_of_ble_eq_true rfl), (Nat.le_of_ble_eq_true rfl)⟩) hCP (CP_rc hCP) rfl rfl hl.1 (Nat.le_of_ble_eq_true rfl) dX0_carry_8 ⟨Nat.zero_le _, Nat.zero_le _⟩ ?_
  refine lv_pop hx hb dX0_carry_11 rfl ?_
  refine lv_iload_n hx hb dX0_carry_12 rfl (lv_at hl 2 rfl) ?_
  refine lv_iload_n hx hb dX0_carry_13 rfl (lv_at hl 3 rfl) ?_
  refine pv_icmp_ne (tgt := 27) hx hb dX0_carry_14 (by decide) (by omega) (fun c_14 => ?_) (fun c_14 => ?_)
  · exact absurd rfl c_14
  · -- 14f
    have hst : l.stackTraces = false := hfl
    obtain ⟨tw0, tw1, tw2, tw3, kw0, kw1, kw2, kd0, kd1, kd2, hU9, hN9⟩ := hTW
    have hgd : ∀ w ∈ (vx_atS RX0 61 "java/lang/IllegalArgumentException" ["java/lang/RuntimeException", "java/lang/Exception"]).filter goodWord, w ∈ wsX0_carry := by decide +kernel
    have hat : ∀ w ∈ vx_atS RX0 61 "java/lang/IllegalArgumentException" ["java/lang/RuntimeException", "java/lang/Exception"], w.before _ s = true := vx_hat (L := vx_atS RX0 61 "java/lang/IllegalArgumentException" ["java/lang/RuntimeException", "java/lang/Exception"]) (B := [.castable "java/lang/IllegalArgumentException" "java/lang/IllegalArgumentException", .declares (Bundle.initS "java/lang/RuntimeException"), .declares (Bundle.initS "java/lang/Exception"), .declares (Bundle.initS "java/lang/Throwable")]) (fun w hw => hts w (hgd w hw)) (by decide +kernel) (vx_c (va_Nw.use rfl kw2) (vx_c (va_Nw.use rfl kd0) (vx_c (va_Nw.use rfl kd1) (vx_c (va_Nw.use rfl kd2) vx_n))))
    exact vx_throwS (rest := []) (names := ["java/lang/RuntimeException", "java/lang/Exception"]) (cls := "java/lang/IllegalArgumentException") (A := fun q => base ≤ q) hx hb hst hown (by decide +kernel) (by decide +kernel) (hts (.classLink RX0 57 "java/lang/IllegalArgumentException") (by decide +kernel)) (hts (.initialized "java/lang/IllegalArgumentException") (by decide +kernel)) tw0 hat (by decide +kernel) hU9 hN9 va_S.rf (hl.1.trans hml.symm) dX0_carry_17 dX0_carry_20 dX0_carry_21 dX0_carry_23 dX0_carry_26 (fun x hx => (hno x hx).elim) (Nat.le_of_ble_eq_true rfl) (Nat.le_of_ble_eq_true rfl) (Nat.le_of_ble_eq_true rfl) (Nat.le_of_ble_eq_true rfl) hlocks (fun t _ h1 h2 => ⟨rfl, h1, h2⟩) (fun _ h => by cases h) (by omega) (by omega)
set_option maxHeartbeats 4000000 in
set_option maxRecDepth 100000 in
theorem c_seat (l : Launch) (D : va_G) (cI : ClassId) (base st : Nat) (Z : Nat → Nat) (x0 x1 x2 x5 x6 x7 : Nat) {n came MV : Int} {F G SP RF RC : Int → Int} (hn : 0 ≤ n ∧ n ≤ 60) (hF : ∀ k : Int, 0 ≤ k → k < n → 0 ≤ F k ∧ F k < 200) (hRF : ∀ k : Int, 0 ≤ k → k < 4 → -1 ≤ RF k ∧ RF k < 200) (u : Int) (hu : 0 ≤ u ∧ u < 4) (x : Int) (hxr : (-2147483648 ≤ x ∧ x ≤ 2147483647)) (rp : Int) (hrp : PL F n x rp) (h0 : 0 ≤ rp) : mu_M l yX0_seat wsX0_seat ({ frames := 2, cells := 0, slots := 0, locals := 44 } : Room) [.ref x0, .int (iI (u)), .int (iI (x))] (CP D cI base st Z x0 x1 x2 x5 x6 x7 n came MV F G SP RF RC) (some (.int (iI (cn (fun k => decide (uI RF u x k = x)) 4)))) ((fun H => CW D cI base x0 x1 x2 x5 x6 x7 (n) (came) (MV) (F) (G) (SP) (uI RF u x) (RC) H)) (mC x0 x1 x2 x5 x6 x7) := by
  refine mu_of (cc := cX0_seat) (maxL := 3) (ret := (some .int)) (own := RX0) (by decide) rfl rfl (Nat.le_of_ble_eq_true rfl) ?_
  intro p e s m below meth c ls B hCP hl hS
  obtain ⟨hx, hb, hml, hr, hts, hown, hlocks⟩ := B
  obtain ⟨⟨hK, hZL, ⟨hstb, xs, hXL, hAL⟩, hTW⟩, f, g, sp, rf, rc, hAf, hAg, hAsp, hArf, hArc, hP, hDb⟩ := id hCP
  have hD := CW_mD hDb
  have hmb := mC_b hDb
  have hbl := CW_lt hCP.2
  have hSW0 := hCP.1
  have hl : lv_has ls 3 [(0, .ref x0), (1, .int (iI (u))), (2, .int (iI (x)))] := hl
  have hin : ∀ w ∈ u_ws RX0 TX0 8, w ∈ wsX0_seat := by decide +kernel
  have q_readerFolders := hts (.fieldLink RX0 22 "ShelfMarks" "readerFolders" "[I") (by decide +kernel)
  refine lv_iload_n hx hb dX0_seat_0 rfl (lv_at hl 1 rfl) ?_
  refine pn_callS (As := [.int (iI (u))]) (rest := []) SP_mv ⟨hx, hb, hml, hown, hts⟩ (c_requireReader l D cI base st Z u hu) (va_cwS 1 hts gX0_seat_X0_requireReader rfl rfl rfl (by decide +kernel) ⟨(Nat.le_of_ble_eq_true rfl), (Nat.le_of_ble_eq_true rfl)⟩) (hSW0.behind hbl hmb hS) rfl rfl hl.1 (Nat.le_of_ble_eq_true rfl) dX0_seat_1 ⟨Nat.zero_le _, Nat.zero_le _⟩ ?_
  refine lv_aload_n hx hb dX0_seat_4 rfl (lv_at hl 0 rfl) ?_
  refine lv_iload_n hx hb dX0_seat_5 rfl (lv_at hl 2 rfl) ?_
  have hxx := PL_x hF h0 hrp
  have hCP : CP D cI base st Z x0 x1 x2 x5 x6 x7 (n) (came) (MV) (F) (G) (SP) (RF) (RC) s s.heap := ⟨hSW0.behind hbl hmb hS, ⟨f, g, sp, rf, rc, hAf, hAg, hAsp, hArf, hArc, hP, hD.weaken (fun _ _ _ h => hmb _ h)⟩⟩
  refine pu_callV (v := rp) (As := [.int (iI (x))]) (rest := []) CP_mv ⟨hx, hb, hml, hown, hts⟩ (c_requirePlace l D cI base st Z x0 x1 x2 x5 x6 x7 hn hF x hxr rp hrp h0) (cwV 1 hts gX0_seat_X0_requirePlace rfl rfl rfl (by decide +kernel) ⟨(Nat.le_of_ble_eq_true rfl), (Nat.le_of_ble_eq_true rfl)⟩) hCP (CP_rc hCP) rfl rfl hl.1 (Nat.le_of_ble_eq_true rfl) dX0_seat_6 ⟨Nat.zero_le _, Nat.zero_le _⟩ ?_
  refine lv_pop hx hb dX0_seat_9 rfl ?_
  refine lv_aload_n hx hb dX0_seat_10 rfl (lv_at hl 0 rfl) ?_
  refine va_get (D := D) (ci := 0) (v := .ref x6) (C := RX0) (T := TX0) (N := 8) hx hb hts hin hown hK hP 0 rfl rfl 6 (by decide) q_readerFolders (fun _ h9 => h9) rfl dX0_seat_11 ?_
  refine lv_iload_n hx hb dX0_seat_14 rfl (lv_at hl 1 rfl) ?_
  refine lv_iload_n hx hb dX0_seat_15 rfl (lv_at hl 2 rfl) ?_
  refine pv_iast (i := u) (v := x) hx hb hK hP hD hS 4 0 rfl rfl (by omega) (by decide) dX0_seat_16 (fun H locs hP hD hS => ?_)
  have hP : va_P D vwCl (W0 cI x0 x1 x2 x5 x6 x7 (n) (came) (MV) f g sp (upd rf (u).toNat (iI (x))) rc) H := hP
  have hD : va_D (mC x0 x1 x2 x5 x6 x7) (W0 cI x0 x1 x2 x5 x6 x7 (n) (came) (MV) f g sp (upd rf (u).toNat (iI (x))) rc) := hD
  have hArf := AR_up (k := u) (v := x) hArf (by omega)
  generalize upd rf (u).toNat (iI (x)) = rf at hP hD hArf
  refine lv_aload_n hx hb dX0_seat_17 rfl (lv_at hl 0 rfl) ?_
  refine lv_iload_n hx hb dX0_seat_18 rfl (lv_at hl 2 rfl) ?_
  have hCP : CP D cI base st Z x0 x1 x2 x5 x6 x7 (n) (came) (MV) (F) (G) (SP) (uI (RF) (u) (x)) (RC) s H := ⟨hSW0.behind hbl hmb hS, ⟨f, g, sp, rf, rc, hAf, hAg, hAsp, hArf, hArc, hP, hD.weaken (fun _ _ _ h => hmb _ h)⟩⟩
  refine pu_callV (v := cn (fun k => decide (uI RF u x k = x)) 4) (As := [.int (iI (x))]) (rest := []) CP_mv ⟨hx, hb, hml, hown, hts⟩ (c_readersAt l D cI base st Z x0 x1 x2 x5 x6 x7 (fun k h0 h1 => by unfold uI; split; omega; exact hRF k h0 h1) x hxr) (cwV 1 hts gX0_seat_X0_readersAt rfl rfl rfl (by decide +kernel) ⟨(Nat.le_of_ble_eq_true rfl), (Nat.le_of_ble_eq_true rfl)⟩) hCP (CP_rc hCP) rfl rfl hl.1 (Nat.le_of_ble_eq_true rfl) dX0_seat_19 ⟨Nat.zero_le _, Nat.zero_le _⟩ ?_
  exact mu_iret hx hb hr hlocks hS dX0_seat_22 (by rfl) ⟨f, g, sp, rf, rc, hAf, hAg, hAsp, hArf, hArc, hP, hD.weaken (fun _ _ _ h => hmb _ h)⟩
set_option maxHeartbeats 4000000 in
set_option maxRecDepth 100000 in
theorem t_seat (l : Launch) (D : va_G) (cI : ClassId) (base st : Nat) (Z : Nat → Nat) (x0 x1 x2 x5 x6 x7 : Nat) {n came MV : Int} {F G SP RF RC : Int → Int} (hfl : l.stackTraces = false) (u : Int) (hur : (-2147483648 ≤ u ∧ u ≤ 2147483647)) (hu : ¬ (0 ≤ u ∧ u < 4)) (x : Int) : th_M l yX0_seat wsX0_seat ({ frames := 7, cells := 1, slots := 6, locals := 112 } : Room) [.ref x0, .int (iI (u)), .int (iI (x))] (CP D cI base st Z x0 x1 x2 x5 x6 x7 n came MV F G SP RF RC) "java/lang/IndexOutOfBoundsException" := by
  refine th_of (cc := cX0_seat) (maxL := 3) (ret := (some .int)) (own := RX0) (by decide) rfl rfl (Nat.le_of_ble_eq_true rfl) ?_
  intro p e s m below meth c ls B hno hCP hl
  obtain ⟨hx, hb, hml, hr, hts, hown, hlocks⟩ := B
  obtain ⟨⟨hK, hZL, ⟨hstb, xs, hXL, hAL⟩, hTW⟩, f, g, sp, rf, rc, hAf, hAg, hAsp, hArf, hArc, hP, hDb⟩ := id hCP
  have hl : lv_has ls 3 [(0, .ref x0), (1, .int (iI (u))), (2, .int (iI (x)))] := hl
  refine lv_iload_n hx hb dX0_seat_0 rfl (lv_at hl 1 rfl) ?_
  refine th_callS (As := [.int (iI (u))]) (rest := []) SP_mv ⟨hx, hb, hml, hown, hts⟩ (t_requireReader l D cI base st Z hfl u hur hu) (va_cwS 1 hts gX0_seat_X0_requireReader rfl rfl rfl (by decide +kernel) ⟨(Nat.le_of_ble_eq_true rfl), (Nat.le_of_ble_eq_true rfl)⟩) hCP.1 rfl rfl hl.1 (Nat.le_of_ble_eq_true rfl) dX0_seat_1 ⟨(Nat.le_of_ble_eq_true rfl), (Nat.le_of_ble_eq_true rfl)⟩ (fun H1 ce q9 h1 h2 h3 h4 h5 => ?_)
  exact th_out hno hlocks h1 h2 h3 h4 h5
set_option maxHeartbeats 4000000 in
set_option maxRecDepth 100000 in
theorem t_seat2 (l : Launch) (D : va_G) (cI : ClassId) (base st : Nat) (Z : Nat → Nat) (x0 x1 x2 x5 x6 x7 : Nat) {n came MV : Int} {F G SP RF RC : Int → Int} (hfl : l.stackTraces = false) (hn : 0 ≤ n ∧ n ≤ 60) (hF : ∀ k : Int, 0 ≤ k → k < n → 0 ≤ F k ∧ F k < 200) (u : Int) (hu : 0 ≤ u ∧ u < 4) (x : Int) (hxr : (-2147483648 ≤ x ∧ x ≤ 2147483647)) (hrp : PL F n x (-1)) : th_M l yX0_seat wsX0_seat ({ frames := 7, cells := 1, slots := 6, locals := 114 } : Room) [.ref x0, .int (iI (u)), .int (iI (x))] (CP D cI base st Z x0 x1 x2 x5 x6 x7 n came MV F G SP RF RC) "java/lang/IndexOutOfBoundsException" := by
  refine th_of (cc := cX0_seat) (maxL := 3) (ret := (some .int)) (own := RX0) (by decide) rfl rfl (Nat.le_of_ble_eq_true rfl) ?_
  intro p e s m below meth c ls B hno hCP hl
  obtain ⟨hx, hb, hml, hr, hts, hown, hlocks⟩ := B
  obtain ⟨⟨hK, hZL, ⟨hstb, xs, hXL, hAL⟩, hTW⟩, f, g, sp, rf, rc, hAf, hAg, hAsp, hArf, hArc, hP, hDb⟩ := id hCP
  have hl : lv_has ls 3 [(0, .ref x0), (1, .int (iI (u))), (2, .int (iI (x)))] := hl
  refine lv_iload_n hx hb dX0_seat_0 rfl (lv_at hl 1 rfl) ?_
  refine pn_callS (As := [.int (iI (u))]) (rest := []) SP_mv ⟨hx, hb, hml, hown, hts⟩ (c_requireReader l D cI base st Z u hu) (va_cwS 1 hts gX0_seat_X0_requireReader rfl rfl rfl (by decide +kernel) ⟨(Nat.le_of_ble_eq_true rfl), (Nat.le_of_ble_eq_true rfl)⟩) hCP.1 rfl rfl hl.1 (Nat.le_of_ble_eq_true rfl) dX0_seat_1 ⟨Nat.zero_le _, Nat.zero_le _⟩ ?_
  refine lv_aload_n hx hb dX0_seat_4 rfl (lv_at hl 0 rfl) ?_
  refine lv_iload_n hx hb dX0_seat_5 rfl (lv_at hl 2 rfl) ?_
  refine th_callV (As := [.int (iI (x))]) (rest := []) CP_mv ⟨hx, hb, hml, hown, hts⟩ (t_requirePlace l D cI base st Z x0 x1 x2 x5 x6 x7 hfl hn hF x hxr hrp) (cwV 1 hts gX0_seat_X0_requirePlace rfl rfl rfl (by decide +kernel) ⟨(Nat.le_of_ble_eq_true rfl), (Nat.le_of_ble_eq_true rfl)⟩) hCP (CP_rc hCP) rfl rfl hl.1 (Nat.le_of_ble_eq_true rfl) dX0_seat_6 ⟨(Nat.le_of_ble_eq_true rfl), (Nat.le_of_ble_eq_true rfl)⟩ (fun H1 ce q9 h1 h2 h3 h4 h5 => ?_)
  exact th_out hno hlocks h1 h2 h3 h4 h5
set_option maxHeartbeats 4000000 in
set_option maxRecDepth 100000 in
theorem c_passDay (l : Launch) (D : va_G) (cI : ClassId) (base st : Nat) (Z : Nat → Nat) (x0 x1 x2 x5 x6 x7 : Nat) {n came MV : Int} {F G SP RF RC : Int → Int} (hn : 0 ≤ n ∧ n ≤ 60) (hF : ∀ k : Int, 0 ≤ k → k < n → 0 ≤ F k ∧ F k < 200) (hRF : ∀ k : Int, 0 ≤ k → k < 4 → -1 ≤ RF k ∧ RF k < 200) : mu_M l yX0_passDay wsX0_passDay ({ frames := 2, cells := 0, slots := 0, locals := 42 } : Room) [.ref x0] (CP D cI base st Z x0 x1 x2 x5 x6 x7 n came MV F G SP RF RC) (some (.int (iI (cn (fun j => decide (pdF F n RF j ≠ -1)) 4)))) ((fun H => CW D cI base x0 x1 x2 x5 x6 x7 (n) (came) (MV) (F) (G) (SP) (pdF F n RF) (pdC F n RF RC) H)) (mC x0 x1 x2 x5 x6 x7) := by
  refine mu_of (cc := cX0_passDay) (maxL := 4) (ret := (some .int)) (own := RX0) (by decide) rfl rfl (Nat.le_of_ble_eq_true rfl) ?_
  intro p e s m below meth c ls B hCP hl hS
  obtain ⟨hx, hb, hml, hr, hts, hown, hlocks⟩ := B
  obtain ⟨⟨hK, hZL, ⟨hstb, xs, hXL, hAL⟩, hTW⟩, f, g, sp, rf, rc, hAf, hAg, hAsp, hArf, hArc, hP, hDb⟩ := id hCP
  have hD := CW_mD hDb
  have hmb := mC_b hDb
  have hbl := CW_lt hCP.2
  have hSW0 := hCP.1
  have hl : lv_has ls 4 [(0, .ref x0)] := hl
  have hin : ∀ w ∈ u_ws RX0 TX0 8, w ∈ wsX0_passDay := by decide +kernel
  have q_readerFolders := hts (.fieldLink RX0 22 "ShelfMarks" "readerFolders" "[I") (by decide +kernel)
  have q_readerCounts := hts (.fieldLink RX0 25 "ShelfMarks" "readerCounts" "[I") (by decide +kernel)
  refine pv_iconst hx hb dX0_passDay_0 ?_
  refine lv_istore_n (lv' := [(1, .int (iI (0))), (0, .ref x0)]) hx hb dX0_passDay_1 rfl hl (by decide) rfl (fun ls hl => ?_)
  refine pv_iconst hx hb dX0_passDay_2 ?_
  refine lv_istore_n (lv' := [(2, .int (iI (0))), (1, .int (iI (0))), (0, .ref x0)]) hx hb dX0_passDay_3 rfl hl (by decide) rfl (fun ls hl => ?_)
  have hloop4 : ∀ (fuel : Nat) (fd : Int) (k : Int) (R2 : Int → Int) (C2 : Int → Int) (H : Heap) (locs : List Loc) (ls : Array Slot), (4 - k) < fuel → (0 ≤ k ∧ k ≤ 4) → (∀ j : Int, 0 ≤ j → j < k → R2 j = pdF F n RF j ∧ C2 j = pdC F n RF RC j) → (∀ j : Int, k ≤ j → j < 4 → R2 j = RF j ∧ C2 j = RC j) → (fd = cn (fun j => decide (pdF F n RF j ≠ -1)) k.toNat) → CW D cI base x0 x1 x2 x5 x6 x7 (n) (came) (MV) (F) (G) (SP) (R2) (C2) H → va_S (mC x0 x1 x2 x5 x6 x7) s.heap H locs → lv_has ls 4 [(0, .ref x0), (1, .int (iI (fd))), (2, .int (iI (k)))] → W p l e ({ frames := 2, cells := 0, slots := 0, locals := 42 } : Room) s m ([.ref x0] : List Value).toArray below meth c H locs 0 0 (MQ below (mu_Q (some (.int (iI (cn (fun j => decide (pdF F n RF j ≠ -1)) 4)))) ((fun H => CW D cI base x0 x1 x2 x5 x6 x7 (n) (came) (MV) (F) (G) (SP) (pdF F n RF) (pdC F n RF RC) H)) (mC x0 x1 x2 x5 x6 x7)) ([.ref x0] : List Value).toArray s 0 0 (mC x0 x1 x2 x5 x6 x7)) (F0 m 4 ls []) := by
    intro fuel
    induction fuel with
    | zero => intro fd k R2 C2 H locs ls hfu hk hRa hRb hfd hC9 hS hl; exfalso; omega
    | succ fuel ih =>
      intro fd k R2 C2 H locs ls hfu hk hRa hRb hfd hC9 hS hl
      obtain ⟨f, g, sp, rf, rc, hAf, hAg, hAsp, hArf, hArc, hP, hDb⟩ := hC9
      have hD := CW_mD hDb
      refine lv_iload_n hx hb dX0_passDay_4 rfl (lv_at hl 2 rfl) ?_
      refine pv_iconst hx hb dX0_passDay_5 ?_
      refine pv_icmp_ge (tgt := 67) hx hb dX0_passDay_6 (by decide) (by omega) (fun c_6 => ?_) (fun c_6 => ?_)
      · -- 6t
        refine lv_iload_n hx hb dX0_passDay_67 rfl (lv_at hl 1 rfl) ?_
        exact mu_iret hx hb hr hlocks hS dX0_passDay_68 (by rw [hfd, show k.toNat = 4 by omega]) ⟨f, g, sp, rf, rc, hAf, hAg, hAsp, AR_to hArf (Int.le_refl _) (fun j h0 h1 => (hRa j h0 (by omega)).1), AR_to hArc (Int.le_refl _) (fun j h0 h1 => (hRa j h0 (by omega)).2), hP, hD.weaken (fun _ _ _ h => hmb _ h)⟩
      · -- 6f
        refine lv_aload_n hx hb dX0_passDay_9 rfl (lv_at hl 0 rfl) ?_
        refine lv_aload_n hx hb dX0_passDay_10 rfl (lv_at hl 0 rfl) ?_
        refine va_get (D := D) (ci := 0) (v := .ref x6) (C := RX0) (T := TX0) (N := 8) hx hb hts hin hown hK hP 0 rfl rfl 6 (by decide) q_readerFolders (fun _ h9 => h9) rfl dX0_passDay_11 ?_
        refine lv_iload_n hx hb dX0_passDay_14 rfl (lv_at hl 2 rfl) ?_
        refine pv_iald (i := k) (v := RF (k)) hx hb hK hP 4 0 rfl rfl (by omega) (by decide) ((hArf _ (by omega) (by omega)).trans (congrArg iI ((hRb k (by omega) (by omega)).1))) dX0_passDay_15 ?_
        have hrk := hRF k (by omega) (by omega)
        have hpp := pl_PL (F := F) hn.1 (RF k)
        have hpr := PL_rg hn.1 hpp
        have hCP : CP D cI base st Z x0 x1 x2 x5 x6 x7 (n) (came) (MV) (F) (G) (SP) (R2) (C2) s H := ⟨hSW0.behind hbl hmb hS, ⟨f, g, sp, rf, rc, hAf, hAg, hAsp, hArf, hArc, hP, hD.weaken (fun _ _ _ h => hmb _ h)⟩⟩
        refine pu_callV (v := pl F n (RF k)) (As := [.int (iI (RF (k)))]) (rest := []) CP_mv ⟨hx, hb, hml, hown, hts⟩ (c_placeOf l D cI base st Z x0 x1 x2 x5 x6 x7 hn hF (RF k) (by omega) _ hpp) (cwV 1 hts gX0_passDay_X0_placeOf rfl rfl rfl (by decide +kernel) ⟨(Nat.le_of_ble_eq_true rfl), (Nat.le_of_ble_eq_true rfl)⟩) hCP (CP_rc hCP) rfl rfl hl.1 (Nat.le_of_ble_eq_true rfl) dX0_passDay_16 ⟨Nat.zero_le _, Nat.zero_le _⟩ ?_
        refine lv_istore_n (lv' := [(3, .int (iI (pl F n (RF k)))), (0, .ref x0), (1, .int (iI (fd))), (2, .int (iI (k)))]) hx hb dX0_passDay_19 rfl hl (by decide) rfl (fun ls hl => ?_)
        refine lv_iload_n hx hb dX0_passDay_20 rfl (lv_at hl 0 rfl) ?_
        refine pv_iconst hx hb dX0_passDay_21 ?_
        refine pv_icmp_eq (tgt := 48) hx hb dX0_passDay_22 (by decide) (by omega) (fun c_22 => ?_) (fun c_22 => ?_)
        · -- 22t
          refine lv_aload_n hx hb dX0_passDay_48 rfl (lv_at hl 1 rfl) ?_
          refine va_get (D := D) (ci := 0) (v := .ref x6) (C := RX0) (T := TX0) (N := 8) hx hb hts hin hown hK hP 0 rfl rfl 6 (by decide) q_readerFolders (fun _ h9 => h9) rfl dX0_passDay_49 ?_
          refine lv_iload_n hx hb dX0_passDay_52 rfl (lv_at hl 3 rfl) ?_
          refine pv_iald (i := k) (v := RF (k)) hx hb hK hP 4 0 rfl rfl (by omega) (by decide) ((hArf _ (by omega) (by omega)).trans (congrArg iI ((hRb k (by omega) (by omega)).1))) dX0_passDay_53 ?_
          refine pv_iconst hx hb dX0_passDay_54 ?_
          refine pv_icmp_eq (tgt := 61) hx hb dX0_passDay_55 (by decide) (by omega) (fun c_55 => ?_) (fun c_55 => ?_)
          · -- 55t
            refine pv_iinc (lv' := [(2, .int (iI (k + 1))), (3, .int (iI (pl F n (RF k)))), (0, .ref x0), (1, .int (iI (fd)))]) hx hb dX0_passDay_61 hl (k := 3) rfl (by decide) rfl (fun ls hl => ?_)
            refine lv_goto (tgt := 4) hx hb dX0_passDay_64 (by decide) ?_
            exact ih (fd) (k + 1) (_) (_) _ _ ls (by omega) (by omega) (fun j h0 h1 => by rcases (show j = k ∨ j < k by omega) with z | z; (rw [z]; unfold pdF pdC; rw [if_pos c_22, if_pos c_22]; exact hRb k (by omega) (by omega)); exact hRa j h0 z) (fun j h0 h1 => hRb j (by omega) h1) (by rw [hfd]; exact (cn_f _ (by omega) (decide_eq_false (by rw [(show pdF F n RF k = RF k by unfold pdF; rw [if_pos c_22])]; exact fun z => z c_55))).symm) ⟨f, g, sp, rf, rc, hAf, hAg, hAsp, hArf, hArc, hP, hD.weaken (fun _ _ _ h => hmb _ h)⟩ hS (lv_sub hl [2, 3, 0] rfl)
          · -- 55f
            refine pv_iinc (lv' := [(1, .int (iI (fd + 1))), (3, .int (iI (pl F n (RF k)))), (0, .ref x0), (2, .int (iI (k)))]) hx hb dX0_passDay_58 hl (k := 2) rfl (by decide) rfl (fun ls hl => ?_)
            refine pv_iinc (lv' := [(2, .int (iI (k + 1))), (1, .int (iI (fd + 1))), (3, .int (iI (pl F n (RF k)))), (0, .ref x0)]) hx hb dX0_passDay_61 hl (k := 3) rfl (by decide) rfl (fun ls hl => ?_)
            refine lv_goto (tgt := 4) hx hb dX0_passDay_64 (by decide) ?_
            exact ih (fd + 1) (k + 1) (_) (_) _ _ ls (by omega) (by omega) (fun j h0 h1 => by rcases (show j = k ∨ j < k by omega) with z | z; (rw [z]; unfold pdF pdC; rw [if_pos c_22, if_pos c_22]; exact hRb k (by omega) (by omega)); exact hRa j h0 z) (fun j h0 h1 => hRb j (by omega) h1) (by rw [hfd]; exact (cn_t _ (by omega) (decide_eq_true (by rw [(show pdF F n RF k = RF k by unfold pdF; rw [if_pos c_22])]; exact c_55))).symm) ⟨f, g, sp, rf, rc, hAf, hAg, hAsp, hArf, hArc, hP, hD.weaken (fun _ _ _ h => hmb _ h)⟩ hS (lv_sub hl [3, 1, 0] rfl)
        · -- 22f
          refine lv_aload_n hx hb dX0_passDay_25 rfl (lv_at hl 1 rfl) ?_
          refine va_get (D := D) (ci := 0) (v := .ref x7) (C := RX0) (T := TX0) (N := 8) hx hb hts hin hown hK hP 0 rfl rfl 7 (by decide) q_readerCounts (fun _ h9 => h9) rfl dX0_passDay_26 ?_
          refine lv_iload_n hx hb dX0_passDay_29 rfl (lv_at hl 3 rfl) ?_
          refine lv_dup2_11 hx hb dX0_passDay_30 rfl rfl ?_
          refine pv_iald (i := k) (v := RC (k)) hx hb hK hP 5 0 rfl rfl (by omega) (by decide) ((hArc _ (by omega) (by omega)).trans (congrArg iI ((hRb k (by omega) (by omega)).2))) dX0_passDay_31 ?_
          refine pv_iconst hx hb dX0_passDay_32 ?_
          refine pv_iadd hx hb dX0_passDay_33 ?_
          refine pv_iast (i := k) (v := (RC (k)) + (1)) hx hb hK hP hD hS 5 0 rfl rfl (by omega) (by decide) dX0_passDay_34 (fun H locs hP hD hS => ?_)
          have hP : va_P D vwCl (W0 cI x0 x1 x2 x5 x6 x7 (n) (came) (MV) f g sp rf (upd rc (k).toNat (iI ((RC (k)) + (1))))) H := hP
          have hD : va_D (mC x0 x1 x2 x5 x6 x7) (W0 cI x0 x1 x2 x5 x6 x7 (n) (came) (MV) f g sp rf (upd rc (k).toNat (iI ((RC (k)) + (1))))) := hD
          have hArc := AR_up (k := k) (v := (RC (k)) + (1)) hArc (by omega)
          generalize upd rc (k).toNat (iI ((RC (k)) + (1))) = rc at hP hD hArc
          refine lv_aload_n hx hb dX0_passDay_35 rfl (lv_at hl 1 rfl) ?_
          refine va_get (D := D) (ci := 0) (v := .ref x6) (C := RX0) (T := TX0) (N := 8) hx hb hts hin hown hK hP 0 rfl rfl 6 (by decide) q_readerFolders (fun _ h9 => h9) rfl dX0_passDay_36 ?_
          refine lv_iload_n hx hb dX0_passDay_39 rfl (lv_at hl 3 rfl) ?_
          refine lv_aload_n hx hb dX0_passDay_40 rfl (lv_at hl 1 rfl) ?_
          refine lv_iload_n hx hb dX0_passDay_41 rfl (lv_at hl 0 rfl) ?_
          refine pv_iconst hx hb dX0_passDay_42 ?_
          refine pv_iadd hx hb dX0_passDay_43 ?_
          have hfr := fa_rg hF (pl F n (RF k) + 1)
          have hCP : CP D cI base st Z x0 x1 x2 x5 x6 x7 (n) (came) (MV) (F) (G) (SP) (R2) (uI (C2) (k) ((RC (k)) + (1))) s H := ⟨hSW0.behind hbl hmb hS, ⟨f, g, sp, rf, rc, hAf, hAg, hAsp, hArf, hArc, hP, hD.weaken (fun _ _ _ h => hmb _ h)⟩⟩
          refine pu_callV (v := fa F n (pl F n (RF k) + 1)) (As := [.int (iI ((pl F n (RF k)) + (1)))]) (rest := [.int (iI (k)), .ref x6]) CP_mv ⟨hx, hb, hml, hown, hts⟩ (c_folderAt l D cI base st Z x0 x1 x2 x5 x6 x7 hn (pl F n (RF k) + 1) (by omega) _ rfl) (cwV 1 hts gX0_passDay_X0_folderAt rfl rfl rfl (by decide +kernel) ⟨(Nat.le_of_ble_eq_true rfl), (Nat.le_of_ble_eq_true rfl)⟩) hCP (CP_rc hCP) rfl rfl hl.1 (Nat.le_of_ble_eq_true rfl) dX0_passDay_44 ⟨Nat.zero_le _, Nat.zero_le _⟩ ?_
          refine pv_iast (i := k) (v := fa F n (pl F n (RF k) + 1)) hx hb hK hP hD hS 4 0 rfl rfl (by omega) (by decide) dX0_passDay_47 (fun H locs hP hD hS => ?_)
          have hP : va_P D vwCl (W0 cI x0 x1 x2 x5 x6 x7 (n) (came) (MV) f g sp (upd rf (k).toNat (iI (fa F n (pl F n (RF k) + 1)))) rc) H := hP
          have hD : va_D (mC x0 x1 x2 x5 x6 x7) (W0 cI x0 x1 x2 x5 x6 x7 (n) (came) (MV) f g sp (upd rf (k).toNat (iI (fa F n (pl F n (RF k) + 1)))) rc) := hD
          have hArf := AR_up (k := k) (v := fa F n (pl F n (RF k) + 1)) hArf (by omega)
          generalize upd rf (k).toNat (iI (fa F n (pl F n (RF k) + 1))) = rf at hP hD hArf
          refine lv_aload_n hx hb dX0_passDay_48 rfl (lv_at hl 1 rfl) ?_
          refine va_get (D := D) (ci := 0) (v := .ref x6) (C := RX0) (T := TX0) (N := 8) hx hb hts hin hown hK hP 0 rfl rfl 6 (by decide) q_readerFolders (fun _ h9 => h9) rfl dX0_passDay_49 ?_
          refine lv_iload_n hx hb dX0_passDay_52 rfl (lv_at hl 3 rfl) ?_
          refine pv_iald (i := k) (v := fa F n (pl F n (RF k) + 1)) hx hb hK hP 4 0 rfl rfl (by omega) (by decide) ((hArf _ (by omega) (by omega)).trans (congrArg iI uI_s)) dX0_passDay_53 ?_
          refine pv_iconst hx hb dX0_passDay_54 ?_
          refine pv_icmp_eq (tgt := 61) hx hb dX0_passDay_55 (by decide) (by omega) (fun c_55 => ?_) (fun c_55 => ?_)
          · -- 55t
            refine pv_iinc (lv' := [(2, .int (iI (k + 1))), (3, .int (iI (pl F n (RF k)))), (0, .ref x0), (1, .int (iI (fd)))]) hx hb dX0_passDay_61 hl (k := 3) rfl (by decide) rfl (fun ls hl => ?_)
            refine lv_goto (tgt := 4) hx hb dX0_passDay_64 (by decide) ?_
            exact ih (fd) (k + 1) (_) (_) _ _ ls (by omega) (by omega) (fun j h0 h1 => by unfold uI; rcases (show j = k ∨ j < k by omega) with z | z; (rw [if_pos z, if_pos z, z]; unfold pdF pdC; rw [if_neg c_22, if_neg c_22]; exact ⟨rfl, rfl⟩); (rw [if_neg (by omega), if_neg (by omega)]; exact hRa j h0 z)) (fun j h0 h1 => by unfold uI; rw [if_neg (by omega), if_neg (by omega)]; exact hRb j (by omega) h1) (by rw [hfd]; exact (cn_f _ (by omega) (decide_eq_false (by rw [(show pdF F n RF k = fa F n (pl F n (RF k) + 1) by unfold pdF; rw [if_neg c_22])]; exact fun z => z c_55))).symm) ⟨f, g, sp, rf, rc, hAf, hAg, hAsp, hArf, hArc, hP, hD.weaken (fun _ _ _ h => hmb _ h)⟩ hS (lv_sub hl [2, 3, 0] rfl)
          · -- 55f
            refine pv_iinc (lv' := [(1, .int (iI (fd + 1))), (3, .int (iI (pl F n (RF k)))), (0, .ref x0), (2, .int (iI (k)))]) hx hb dX0_passDay_58 hl (k := 2) rfl (by decide) rfl (fun ls hl => ?_)
            refine pv_iinc (lv' := [(2, .int (iI (k + 1))), (1, .int (iI (fd + 1))), (3, .int (iI (pl F n (RF k)))), (0, .ref x0)]) hx hb dX0_passDay_61 hl (k := 3) rfl (by decide) rfl (fun ls hl => ?_)
            refine lv_goto (tgt := 4) hx hb dX0_passDay_64 (by decide) ?_
            exact ih (fd + 1) (k + 1) (_) (_) _ _ ls (by omega) (by omega) (fun j h0 h1 => by unfold uI; rcases (show j = k ∨ j < k by omega) with z | z; (rw [if_pos z, if_pos z, z]; unfold pdF pdC; rw [if_neg c_22, if_neg c_22]; exact ⟨rfl, rfl⟩); (rw [if_neg (by omega), if_neg (by omega)]; exact hRa j h0 z)) (fun j h0 h1 => by unfold uI; rw [if_neg (by omega), if_neg (by omega)]; exact hRb j (by omega) h1) (by rw [hfd]; exact (cn_t _ (by omega) (decide_eq_true (by rw [(show pdF F n RF k = fa F n (pl F n (RF k) + 1) by unfold pdF; rw [if_neg c_22])]; exact c_55))).symm) ⟨f, g, sp, rf, rc, hAf, hAg, hAsp, hArf, hArc, hP, hD.weaken (fun _ _ _ h => hmb _ h)⟩ hS (lv_sub hl [3, 1, 0] rfl)
  exact hloop4 ((4 : Int).toNat + 1) (0) (0) (RF) (RC) _ _ ls (by omega) (by omega) (fun k h0 h1 => absurd h1 (by omega)) (fun k h0 h1 => ⟨rfl, rfl⟩) (rfl) ⟨f, g, sp, rf, rc, hAf, hAg, hAsp, hArf, hArc, hP, hD.weaken (fun _ _ _ h => hmb _ h)⟩ hS (lv_sub hl [2, 1, 0] rfl)
