set_option maxHeartbeats 4000000 in
set_option maxRecDepth 100000 in
theorem c_M_spreads (l : Launch) (D : va_G) (cI cZ : ClassId) (base st : Nat) (Z : Nat → Nat) (y0 y1 y2 y3 y6 y7 y8 : Nat) {n came MV th : Int} {F G ZN SP RF RC : Int → Int} (hn : 0 ≤ n ∧ n ≤ 60) (hF : ∀ k : Int, 0 ≤ k → k < n → 0 ≤ F k ∧ F k < 200) (hFi : ∀ i j : Int, 0 ≤ i → i < n → 0 ≤ j → j < n → F i = F j → i = j) (q : Int) (hq : 0 ≤ q ∧ q < n) (lv : Int) (hlv : 0 ≤ lv ∧ lv ≤ 8) (lo : Int) (hlo : 0 ≤ lo ∧ lo ≤ 65536) (Q : Int → Int) (hQ : ∀ k : Int, 0 ≤ k → k < n → k ≠ q → G (F k) = Q k ∧ 0 ≤ Q k ∧ Q k ≤ 255) (bg t : Int) (hbt : 0 ≤ bg ∧ bg ≤ q ∧ q < bg + t ∧ bg + t ≤ n) (hish : ∀ k : Int, 0 ≤ k → k < n → k ≠ q → ((lo ≤ Q k ∧ Q k < lo + 2 ^ lv.toNat) ↔ (bg ≤ k ∧ k < bg + t))) (dm : Int) (hdm : dm = cn (fun i => decide (bg + i ≠ q ∧ Q (bg + i) ≠ nm lo (2 ^ lv.toNat) t i)) t.toNat) : mu_M l yX1_spreads wsX1_spreads ({ frames := 0, cells := 0, slots := 0, locals := 0 } : Room) [.ref y0, .int (iI (q)), .int (iI (lv)), .int (iI (lo))] (MP D cI cZ base st Z y0 y1 y2 y3 y6 y7 y8 n came MV th F G ZN SP RF RC) none (fun H => ∃ G2 : Int → Int, (∀ j : Int, 0 ≤ j → j < n → G2 (F j) = if bg ≤ j ∧ j < bg + t then nm lo (2 ^ lv.toNat) t (j - bg) else G (F j)) ∧ MW D cI cZ base y0 y1 y2 y3 y6 y7 y8 (n) (came) (MV + dm) (th) (F) (G2) (ZN) (uI SP lv (SP lv + 1)) (RF) (RC) H) (mM y0 y1 y2 y3 y6 y7 y8) := by
  refine mu_of (cc := cX1_spreads) (maxL := 10) (ret := none) (own := RX1) (by decide) rfl rfl (Nat.le_of_ble_eq_true rfl) ?_
  intro p e s m below meth c ls B hCP hl hS
  obtain ⟨hx, hb, hml, hr, hts, hown, hlocks⟩ := B
  obtain ⟨⟨hK, hZL, ⟨hstb, xs, hXL, hAL⟩, hTW⟩, f, g, z, sp, rf, rc, hAf, hAg, hAz, hAsp, hArf, hArc, hP, hDb⟩ := id hCP
  have hD := MW_mD hDb
  have hmb := mM_b hDb
  have hbl := MW_lt hCP.2
  have hSW0 := hCP.1
  have hl : lv_has ls 10 [(0, .ref y0), (1, .int (iI (q))), (2, .int (iI (lv))), (3, .int (iI (lo)))] := hl
  have hin : ∀ w ∈ u_ws RX1 TX1 10, w ∈ wsX1_spreads := by decide +kernel
  have q_order := hts (.fieldLink RX1 7 "ShelfMarksModel" "order" "[I") (by decide +kernel)
  have q_marks := hts (.fieldLink RX1 13 "ShelfMarksModel" "marks" "[I") (by decide +kernel)
  have q_spread := hts (.fieldLink RX1 20 "ShelfMarksModel" "spread" "[I") (by decide +kernel)
  have q_size := hts (.fieldLink RX1 36 "ShelfMarksModel" "size" "I") (by decide +kernel)
  have q_moved := hts (.fieldLink RX1 67 "ShelfMarksModel" "moved" "I") (by decide +kernel)
  refine pv_iconst hx hb dX1_spreads_0 ?_
  have hp2 := p2_rg hlv
  refine lv_iload_n hx hb dX1_spreads_1 rfl (lv_at hl 2 rfl) ?_
  refine pv_ishl hx hb dX1_spreads_2 (by omega) (by omega) (by omega) ?_
  rw [show iI ((1) * 2 ^ (lv : Int).toNat) = iI (2 ^ lv.toNat) from congrArg iI ((Int.one_mul _))]
  refine lv_istore (lv' := [(4, .int (iI (2 ^ lv.toNat))), (0, .ref y0), (1, .int (iI (q))), (2, .int (iI (lv))), (3, .int (iI (lo)))]) hx hb dX1_spreads_3 hl (by decide) rfl (fun ls hl => ?_)
  refine pv_iconst hx hb dX1_spreads_5 ?_
  refine lv_istore (lv' := [(5, .int (iI (1))), (4, .int (iI (2 ^ lv.toNat))), (0, .ref y0), (1, .int (iI (q))), (2, .int (iI (lv))), (3, .int (iI (lo)))]) hx hb dX1_spreads_6 hl (by decide) rfl (fun ls hl => ?_)
  refine lv_iload_n hx hb dX1_spreads_8 rfl (lv_at hl 3 rfl) ?_
  refine lv_istore (lv' := [(6, .int (iI (q))), (5, .int (iI (1))), (4, .int (iI (2 ^ lv.toNat))), (0, .ref y0), (1, .int (iI (q))), (2, .int (iI (lv))), (3, .int (iI (lo)))]) hx hb dX1_spreads_9 hl (by decide) rfl (fun ls hl => ?_)
  refine pv_iconst hx hb dX1_spreads_11 ?_
  refine lv_istore (lv' := [(7, .int (iI (0))), (6, .int (iI (q))), (5, .int (iI (1))), (4, .int (iI (2 ^ lv.toNat))), (0, .ref y0), (1, .int (iI (q))), (2, .int (iI (lv))), (3, .int (iI (lo)))]) hx hb dX1_spreads_12 hl (by decide) rfl (fun ls hl => ?_)
  have hloop14 : ∀ (fuel : Nat) (k : Int) (n9 : Int) (fs : Int) (H : Heap) (locs : List Loc) (ls : Array Slot), (n - k) < fuel → (0 ≤ k ∧ k ≤ n) → (n9 = if k ≤ bg then 1 else if k ≤ q then 1 + (k - bg) else if k ≤ bg + t then k - bg else t) → (fs = if k ≤ bg then q else bg) → MW D cI cZ base y0 y1 y2 y3 y6 y7 y8 (n) (came) (MV) (th) (F) (G) (ZN) (SP) (RF) (RC) H → va_S (mM y0 y1 y2 y3 y6 y7 y8) s.heap H locs → lv_has ls 10 [(0, .ref y0), (1, .int (iI (q))), (2, .int (iI (lv))), (3, .int (iI (lo))), (4, .int (iI (2 ^ lv.toNat))), (5, .int (iI (n9))), (6, .int (iI (fs))), (7, .int (iI (k)))] → W p l e ({ frames := 0, cells := 0, slots := 0, locals := 0 } : Room) s m ([.ref y0, .int (iI (q)), .int (iI (lv)), .int (iI (lo))] : List Value).toArray below meth c H locs 0 0 (MQ below (mu_Q none (fun H => ∃ G2 : Int → Int, (∀ j : Int, 0 ≤ j → j < n → G2 (F j) = if bg ≤ j ∧ j < bg + t then nm lo (2 ^ lv.toNat) t (j - bg) else G (F j)) ∧ MW D cI cZ base y0 y1 y2 y3 y6 y7 y8 (n) (came) (MV + dm) (th) (F) (G2) (ZN) (uI SP lv (SP lv + 1)) (RF) (RC) H) (mM y0 y1 y2 y3 y6 y7 y8)) ([.ref y0, .int (iI (q)), .int (iI (lv)), .int (iI (lo))] : List Value).toArray s 0 0 (mM y0 y1 y2 y3 y6 y7 y8)) (F0 m 14 ls []) := by
    intro fuel
    induction fuel with
    | zero => intro k n9 fs H locs ls hfu hk hn9 hfs hC9 hS hl; exfalso; omega
    | succ fuel ih =>
      intro k n9 fs H locs ls hfu hk hn9 hfs hC9 hS hl
      obtain ⟨f, g, z, sp, rf, rc, hAf, hAg, hAz, hAsp, hArf, hArc, hP, hDb⟩ := hC9
      have hD := MW_mD hDb
      refine lv_iload hx hb dX1_spreads_14 (lv_at hl 7 rfl) ?_
      refine lv_aload_n hx hb dX1_spreads_16 rfl (lv_at hl 0 rfl) ?_
      refine va_get (D := D) (ci := 1) (v := .int (iI (n))) (C := RX1) (T := TX1) (N := 10) hx hb hts hin hown hK hP 0 rfl rfl 1 (by decide) q_size (fun _ h9 => h9) rfl dX1_spreads_17 ?_
      refine pv_icmp_ge (tgt := 113) hx hb dX1_spreads_20 (by decide) (by omega) (fun c_20 => ?_) (fun c_20 => ?_)
      · -- 20t
        have e1 : n9 = t := by rw [hn9]; (repeat' split) <;> omega
        have e2 : fs = bg := by rw [hfs]; split <;> omega
        rw [e1, e2] at hl
        refine pv_iconst hx hb dX1_spreads_113 ?_
        refine lv_istore (lv' := [(7, .int (iI (0))), (0, .ref y0), (1, .int (iI (q))), (2, .int (iI (lv))), (3, .int (iI (lo))), (4, .int (iI (2 ^ lv.toNat))), (5, .int (iI (t))), (6, .int (iI (bg)))]) hx hb dX1_spreads_114 hl (by decide) rfl (fun ls hl => ?_)
        have hloop116 : ∀ (fuel : Nat) (k : Int) (mv : Int) (G2 : Int → Int) (H : Heap) (locs : List Loc) (ls : Array Slot), (t - k) < fuel → (0 ≤ k ∧ k ≤ t) → (mv = MV + cn (fun i => decide (bg + i ≠ q ∧ Q (bg + i) ≠ nm lo (2 ^ lv.toNat) t i)) k.toNat) → (∀ j : Int, 0 ≤ j → j < n → G2 (F j) = if bg ≤ j ∧ j < bg + k then nm lo (2 ^ lv.toNat) t (j - bg) else G (F j)) → MW D cI cZ base y0 y1 y2 y3 y6 y7 y8 (n) (came) (mv) (th) (F) (G2) (ZN) (SP) (RF) (RC) H → va_S (mM y0 y1 y2 y3 y6 y7 y8) s.heap H locs → lv_has ls 10 [(0, .ref y0), (1, .int (iI (q))), (2, .int (iI (lv))), (3, .int (iI (lo))), (4, .int (iI (2 ^ lv.toNat))), (5, .int (iI (t))), (6, .int (iI (bg))), (7, .int (iI (k)))] → W p l e ({ frames := 0, cells := 0, slots := 0, locals := 0 } : Room) s m ([.ref y0, .int (iI (q)), .int (iI (lv)), .int (iI (lo))] : List Value).toArray below meth c H locs 0 0 (MQ below (mu_Q none (fun H => ∃ G2 : Int → Int, (∀ j : Int, 0 ≤ j → j < n → G2 (F j) = if bg ≤ j ∧ j < bg + t then nm lo (2 ^ lv.toNat) t (j - bg) else G (F j)) ∧ MW D cI cZ base y0 y1 y2 y3 y6 y7 y8 (n) (came) (MV + dm) (th) (F) (G2) (ZN) (uI SP lv (SP lv + 1)) (RF) (RC) H) (mM y0 y1 y2 y3 y6 y7 y8)) ([.ref y0, .int (iI (q)), .int (iI (lv)), .int (iI (lo))] : List Value).toArray s 0 0 (mM y0 y1 y2 y3 y6 y7 y8)) (F0 m 116 ls []) := by
          intro fuel
          induction fuel with
          | zero => intro k mv G2 H locs ls hfu hk hmv hG2 hC9 hS hl; exfalso; omega
          | succ fuel ih =>
            intro k mv G2 H locs ls hfu hk hmv hG2 hC9 hS hl
            obtain ⟨f, g, z, sp, rf, rc, hAf, hAg, hAz, hAsp, hArf, hArc, hP, hDb⟩ := hC9
            have hD := MW_mD hDb
            refine lv_iload hx hb dX1_spreads_116 (lv_at hl 7 rfl) ?_
            refine lv_iload hx hb dX1_spreads_118 (lv_at hl 5 rfl) ?_
            refine pv_icmp_ge (tgt := 197) hx hb dX1_spreads_120 (by decide) (by omega) (fun c_120 => ?_) (fun c_120 => ?_)
            · -- 120t
              obtain rfl : MV + dm = mv := by rw [hmv, hdm, show k.toNat = t.toNat by omega]
              refine lv_aload_n hx hb dX1_spreads_197 rfl (lv_at hl 0 rfl) ?_
              refine va_get (D := D) (ci := 1) (v := .ref y6) (C := RX1) (T := TX1) (N := 10) hx hb hts hin hown hK hP 0 rfl rfl 6 (by decide) q_spread (fun _ h9 => h9) rfl dX1_spreads_198 ?_
              refine lv_iload_n hx hb dX1_spreads_201 rfl (lv_at hl 2 rfl) ?_
              refine lv_dup2_11 hx hb dX1_spreads_202 rfl rfl ?_
              refine pv_iald (i := lv) (v := SP (lv)) hx hb hK hP 4 0 rfl rfl (by omega) (by decide) (hAsp _ (by omega) (by omega)) dX1_spreads_203 ?_
              refine pv_iconst hx hb dX1_spreads_204 ?_
              refine pv_iadd hx hb dX1_spreads_205 ?_
              refine pv_iast (i := lv) (v := (SP (lv)) + (1)) hx hb hK hP hD hS 4 0 rfl rfl (by omega) (by decide) dX1_spreads_206 (fun H locs hP hD hS => ?_)
              have hP : va_P D vwCl (W1 cI cZ y0 y1 y2 y3 y6 y7 y8 (n) (came) (MV + dm) (th) f g z (upd sp (lv).toNat (iI ((SP (lv)) + (1)))) rf rc) H := hP
              have hD : va_D (mM y0 y1 y2 y3 y6 y7 y8) (W1 cI cZ y0 y1 y2 y3 y6 y7 y8 (n) (came) (MV + dm) (th) f g z (upd sp (lv).toNat (iI ((SP (lv)) + (1)))) rf rc) := hD
              have hAsp := AR_up (k := lv) (v := (SP (lv)) + (1)) hAsp (by omega)
              generalize upd sp (lv).toNat (iI ((SP (lv)) + (1))) = sp at hP hD hAsp
              exact mu_vret hx hb hr hlocks hS dX1_spreads_207 ⟨G2, (fun j h0 h1 => by rw [hG2 j h0 h1, show k = t by omega]), ⟨f, g, z, sp, rf, rc, hAf, hAg, hAz, hAsp, hArf, hArc, hP, hD.weaken (fun _ _ _ h => hmb _ h)⟩⟩
            · -- 120f
              refine lv_aload_n hx hb dX1_spreads_123 rfl (lv_at hl 0 rfl) ?_
              refine va_get (D := D) (ci := 1) (v := .ref y1) (C := RX1) (T := TX1) (N := 10) hx hb hts hin hown hK hP 0 rfl rfl 0 (by decide) q_order (fun _ h9 => h9) rfl dX1_spreads_124 ?_
              refine lv_iload hx hb dX1_spreads_127 (lv_at hl 6 rfl) ?_
              refine lv_iload hx hb dX1_spreads_129 (lv_at hl 7 rfl) ?_
              refine pv_iadd hx hb dX1_spreads_131 ?_
              refine pv_iald (i := (bg) + (k)) (v := F ((bg) + (k))) hx hb hK hP 1 0 rfl rfl (by omega) (by decide) (hAf _ (by omega) (by omega)) dX1_spreads_132 ?_
              have hfk := hF (bg + k) (by omega) (by omega)
              refine lv_istore (lv' := [(8, .int (iI (F ((bg) + (k))))), (0, .ref y0), (1, .int (iI (q))), (2, .int (iI (lv))), (3, .int (iI (lo))), (4, .int (iI (2 ^ lv.toNat))), (5, .int (iI (t))), (6, .int (iI (bg))), (7, .int (iI (k)))]) hx hb dX1_spreads_133 hl (by decide) rfl (fun ls hl => ?_)
              refine lv_iload_n hx hb dX1_spreads_135 rfl (lv_at hl 4 rfl) ?_
              refine lv_iload hx hb dX1_spreads_136 (lv_at hl 8 rfl) ?_
              have hmul := mul_b (i := k) (w := 2 ^ lv.toNat) (by omega) (by omega)
              refine lv_iload hx hb dX1_spreads_138 (lv_at hl 5 rfl) ?_
              refine pv_imul hx hb dX1_spreads_140 ?_
              refine lv_iload hx hb dX1_spreads_141 (lv_at hl 6 rfl) ?_
              refine pv_idiv hx hb dX1_spreads_143 (by omega) (by omega) ?_
              refine pv_iadd hx hb dX1_spreads_144 ?_
              rw [show iI ((lo) + (((k) * (2 ^ lv.toNat)) / (t))) = iI (nm lo (2 ^ lv.toNat) t k) from congrArg iI (rfl)]
              have hnmr := nm_rg (lo := lo) (w := 2 ^ lv.toNat) (t := t) (i := k) hlo (by omega) (by omega) (by omega)
              refine lv_istore (lv' := [(9, .int (iI (nm lo (2 ^ lv.toNat) t k))), (8, .int (iI (F ((bg) + (k))))), (0, .ref y0), (1, .int (iI (q))), (2, .int (iI (lv))), (3, .int (iI (lo))), (4, .int (iI (2 ^ lv.toNat))), (5, .int (iI (t))), (6, .int (iI (bg))), (7, .int (iI (k)))]) hx hb dX1_spreads_145 hl (by decide) rfl (fun ls hl => ?_)
              refine lv_aload_n hx hb dX1_spreads_147 rfl (lv_at hl 2 rfl) ?_
              refine lv_dup hx hb dX1_spreads_148 rfl ?_
              refine va_get (D := D) (ci := 1) (v := .int (iI (mv))) (C := RX1) (T := TX1) (N := 10) hx hb hts hin hown hK hP 0 rfl rfl 5 (by decide) q_moved (fun _ h9 => h9) rfl dX1_spreads_149 ?_
              refine lv_iload hx hb dX1_spreads_152 (lv_at hl 8 rfl) ?_
              refine lv_iload hx hb dX1_spreads_154 (lv_at hl 9 rfl) ?_
              refine pv_iadd hx hb dX1_spreads_156 ?_
              refine lv_iload_n hx hb dX1_spreads_157 rfl (lv_at hl 3 rfl) ?_
              refine pv_icmp_eq (tgt := 177) hx hb dX1_spreads_158 (by decide) (by omega) (fun c_158 => ?_) (fun c_158 => ?_)
              · -- 158t
                refine pv_iconst hx hb dX1_spreads_177 ?_
                refine pv_iadd hx hb dX1_spreads_178 ?_
                refine va_put (D := D) (ci := 1) (v := .int (iI ((mv) + (0)))) (ty := .int) (C := RX1) (T := TX1) (N := 10) hx hb hts hin tyX1 tyX1_ok nmX1 hown hK hP hD hS 0 rfl rfl 5 (by decide) q_moved (fun _ h9 => h9) rfl (by decide +kernel) rfl rfl (Nat.le_of_ble_eq_true rfl) dX1_spreads_179 (fun H locs hP hD hS => ?_)
                have hP : va_P D vwCl (W1 cI cZ y0 y1 y2 y3 y6 y7 y8 (n) (came) ((mv) + (0)) (th) f g z sp rf rc) H := hP
                have hD : va_D (mM y0 y1 y2 y3 y6 y7 y8) (W1 cI cZ y0 y1 y2 y3 y6 y7 y8 (n) (came) ((mv) + (0)) (th) f g z sp rf rc) := hD
                refine lv_aload_n hx hb dX1_spreads_182 rfl (lv_at hl 2 rfl) ?_
                refine va_get (D := D) (ci := 1) (v := .ref y2) (C := RX1) (T := TX1) (N := 10) hx hb hts hin hown hK hP 0 rfl rfl 2 (by decide) q_marks (fun _ h9 => h9) rfl dX1_spreads_183 ?_
                refine lv_iload hx hb dX1_spreads_186 (lv_at hl 1 rfl) ?_
                refine lv_iload hx hb dX1_spreads_188 (lv_at hl 0 rfl) ?_
                refine pv_iast (i := F ((bg) + (k))) (v := nm lo (2 ^ lv.toNat) t k) hx hb hK hP hD hS 2 0 rfl rfl (by omega) (by decide) dX1_spreads_190 (fun H locs hP hD hS => ?_)
                have hP : va_P D vwCl (W1 cI cZ y0 y1 y2 y3 y6 y7 y8 (n) (came) ((mv) + (0)) (th) f (upd g (F ((bg) + (k))).toNat (iI (nm lo (2 ^ lv.toNat) t k))) z sp rf rc) H := hP
                have hD : va_D (mM y0 y1 y2 y3 y6 y7 y8) (W1 cI cZ y0 y1 y2 y3 y6 y7 y8 (n) (came) ((mv) + (0)) (th) f (upd g (F ((bg) + (k))).toNat (iI (nm lo (2 ^ lv.toNat) t k))) z sp rf rc) := hD
                have hAg := AR_up (k := F ((bg) + (k))) (v := nm lo (2 ^ lv.toNat) t k) hAg (by omega)
                generalize upd g (F ((bg) + (k))).toNat (iI (nm lo (2 ^ lv.toNat) t k)) = g at hP hD hAg
                refine pv_iinc (lv' := [(7, .int (iI (k + 1))), (9, .int (iI (nm lo (2 ^ lv.toNat) t k))), (8, .int (iI (F ((bg) + (k))))), (0, .ref y0), (1, .int (iI (q))), (2, .int (iI (lv))), (3, .int (iI (lo))), (4, .int (iI (2 ^ lv.toNat))), (5, .int (iI (t))), (6, .int (iI (bg)))]) hx hb dX1_spreads_191 hl (k := 9) rfl (by decide) rfl (fun ls hl => ?_)
                refine lv_goto (tgt := 116) hx hb dX1_spreads_194 (by decide) ?_
                exact ih (k + 1) ((mv) + (0)) (_) _ _ ls (by omega) (by omega) (by rw [hmv, cn_f _ (by omega) (decide_eq_false (fun z => z.1 c_158))]; omega) (fun j h0 h1 => by unfold uI; rcases (show j = bg + k ∨ j ≠ bg + k by omega) with z | z; (rw [z, if_pos rfl, if_pos (by omega), show bg + k - bg = k by omega]); (rw [if_neg (fun z2 => z (hFi _ _ h0 h1 (by omega) (by omega) z2)), hG2 j h0 h1]; by_cases z3 : bg ≤ j ∧ j < bg + k; rw [if_pos z3, if_pos (by omega)]; rw [if_neg z3, if_neg (by omega)])) ⟨f, g, z, sp, rf, rc, hAf, hAg, hAz, hAsp, hArf, hArc, hP, hD.weaken (fun _ _ _ h => hmb _ h)⟩ hS (lv_sub hl [3, 4, 5, 6, 7, 8, 9, 0] rfl)
              · -- 158f
                have hqk := hQ (bg + k) (by omega) (by omega) c_158
                refine lv_aload_n hx hb dX1_spreads_161 rfl (lv_at hl 2 rfl) ?_
                refine va_get (D := D) (ci := 1) (v := .ref y2) (C := RX1) (T := TX1) (N := 10) hx hb hts hin hown hK hP 0 rfl rfl 2 (by decide) q_marks (fun _ h9 => h9) rfl dX1_spreads_162 ?_
                refine lv_iload hx hb dX1_spreads_165 (lv_at hl 1 rfl) ?_
                refine pv_iald (i := F ((bg) + (k))) (v := Q (bg + k)) hx hb hK hP 2 0 rfl rfl (by omega) (by decide) ((hAg _ (by omega) (by omega)).trans (congrArg iI ((hG2 (bg + k) (by omega) (by omega)).trans ((if_neg (by omega)).trans hqk.1)))) dX1_spreads_167 ?_
                refine lv_iload hx hb dX1_spreads_168 (lv_at hl 0 rfl) ?_
                refine pv_icmp_eq (tgt := 177) hx hb dX1_spreads_170 (by decide) (by omega) (fun c_170 => ?_) (fun c_170 => ?_)
                · -- 170t
                  refine pv_iconst hx hb dX1_spreads_177 ?_
                  refine pv_iadd hx hb dX1_spreads_178 ?_
                  refine va_put (D := D) (ci := 1) (v := .int (iI ((mv) + (0)))) (ty := .int) (C := RX1) (T := TX1) (N := 10) hx hb hts hin tyX1 tyX1_ok nmX1 hown hK hP hD hS 0 rfl rfl 5 (by decide) q_moved (fun _ h9 => h9) rfl (by decide +kernel) rfl rfl (Nat.le_of_ble_eq_true rfl) dX1_spreads_179 (fun H locs hP hD hS => ?_)
                  have hP : va_P D vwCl (W1 cI cZ y0 y1 y2 y3 y6 y7 y8 (n) (came) ((mv) + (0)) (th) f g z sp rf rc) H := hP
                  have hD : va_D (mM y0 y1 y2 y3 y6 y7 y8) (W1 cI cZ y0 y1 y2 y3 y6 y7 y8 (n) (came) ((mv) + (0)) (th) f g z sp rf rc) := hD
                  refine lv_aload_n hx hb dX1_spreads_182 rfl (lv_at hl 2 rfl) ?_
                  refine va_get (D := D) (ci := 1) (v := .ref y2) (C := RX1) (T := TX1) (N := 10) hx hb hts hin hown hK hP 0 rfl rfl 2 (by decide) q_marks (fun _ h9 => h9) rfl dX1_spreads_183 ?_
                  refine lv_iload hx hb dX1_spreads_186 (lv_at hl 1 rfl) ?_
                  refine lv_iload hx hb dX1_spreads_188 (lv_at hl 0 rfl) ?_
                  refine pv_iast (i := F ((bg) + (k))) (v := nm lo (2 ^ lv.toNat) t k) hx hb hK hP hD hS 2 0 rfl rfl (by omega) (by decide) dX1_spreads_190 (fun H locs hP hD hS => ?_)
                  have hP : va_P D vwCl (W1 cI cZ y0 y1 y2 y3 y6 y7 y8 (n) (came) ((mv) + (0)) (th) f (upd g (F ((bg) + (k))).toNat (iI (nm lo (2 ^ lv.toNat) t k))) z sp rf rc) H := hP
                  have hD : va_D (mM y0 y1 y2 y3 y6 y7 y8) (W1 cI cZ y0 y1 y2 y3 y6 y7 y8 (n) (came) ((mv) + (0)) (th) f (upd g (F ((bg) + (k))).toNat (iI (nm lo (2 ^ lv.toNat) t k))) z sp rf rc) := hD
                  have hAg := AR_up (k := F ((bg) + (k))) (v := nm lo (2 ^ lv.toNat) t k) hAg (by omega)
                  generalize upd g (F ((bg) + (k))).toNat (iI (nm lo (2 ^ lv.toNat) t k)) = g at hP hD hAg
                  refine pv_iinc (lv' := [(7, .int (iI (k + 1))), (9, .int (iI (nm lo (2 ^ lv.toNat) t k))), (8, .int (iI (F ((bg) + (k))))), (0, .ref y0), (1, .int (iI (q))), (2, .int (iI (lv))), (3, .int (iI (lo))), (4, .int (iI (2 ^ lv.toNat))), (5, .int (iI (t))), (6, .int (iI (bg)))]) hx hb dX1_spreads_191 hl (k := 9) rfl (by decide) rfl (fun ls hl => ?_)
                  refine lv_goto (tgt := 116) hx hb dX1_spreads_194 (by decide) ?_
                  exact ih (k + 1) ((mv) + (0)) (_) _ _ ls (by omega) (by omega) (by rw [hmv, cn_f _ (by omega) (decide_eq_false (fun z => z.2 c_170))]; omega) (fun j h0 h1 => by unfold uI; rcases (show j = bg + k ∨ j ≠ bg + k by omega) with z | z; (rw [z, if_pos rfl, if_pos (by omega), show bg + k - bg = k by omega]); (rw [if_neg (fun z2 => z (hFi _ _ h0 h1 (by omega) (by omega) z2)), hG2 j h0 h1]; by_cases z3 : bg ≤ j ∧ j < bg + k; rw [if_pos z3, if_pos (by omega)]; rw [if_neg z3, if_neg (by omega)])) ⟨f, g, z, sp, rf, rc, hAf, hAg, hAz, hAsp, hArf, hArc, hP, hD.weaken (fun _ _ _ h => hmb _ h)⟩ hS (lv_sub hl [3, 4, 5, 6, 7, 8, 9, 0] rfl)
                · -- 170f
                  refine pv_iconst hx hb dX1_spreads_173 ?_
                  refine lv_goto (tgt := 178) hx hb dX1_spreads_174 (by decide) ?_
                  refine pv_iadd hx hb dX1_spreads_178 ?_
                  refine va_put (D := D) (ci := 1) (v := .int (iI ((mv) + (1)))) (ty := .int) (C := RX1) (T := TX1) (N := 10) hx hb hts hin tyX1 tyX1_ok nmX1 hown hK hP hD hS 0 rfl rfl 5 (by decide) q_moved (fun _ h9 => h9) rfl (by decide +kernel) rfl rfl (Nat.le_of_ble_eq_true rfl) dX1_spreads_179 (fun H locs hP hD hS => ?_)
                  have hP : va_P D vwCl (W1 cI cZ y0 y1 y2 y3 y6 y7 y8 (n) (came) ((mv) + (1)) (th) f g z sp rf rc) H := hP
                  have hD : va_D (mM y0 y1 y2 y3 y6 y7 y8) (W1 cI cZ y0 y1 y2 y3 y6 y7 y8 (n) (came) ((mv) + (1)) (th) f g z sp rf rc) := hD
                  refine lv_aload_n hx hb dX1_spreads_182 rfl (lv_at hl 2 rfl) ?_
                  refine va_get (D := D) (ci := 1) (v := .ref y2) (C := RX1) (T := TX1) (N := 10) hx hb hts hin hown hK hP 0 rfl rfl 2 (by decide) q_marks (fun _ h9 => h9) rfl dX1_spreads_183 ?_
                  refine lv_iload hx hb dX1_spreads_186 (lv_at hl 1 rfl) ?_
                  refine lv_iload hx hb dX1_spreads_188 (lv_at hl 0 rfl) ?_
                  refine pv_iast (i := F ((bg) + (k))) (v := nm lo (2 ^ lv.toNat) t k) hx hb hK hP hD hS 2 0 rfl rfl (by omega) (by decide) dX1_spreads_190 (fun H locs hP hD hS => ?_)
                  have hP : va_P D vwCl (W1 cI cZ y0 y1 y2 y3 y6 y7 y8 (n) (came) ((mv) + (1)) (th) f (upd g (F ((bg) + (k))).toNat (iI (nm lo (2 ^ lv.toNat) t k))) z sp rf rc) H := hP
                  have hD : va_D (mM y0 y1 y2 y3 y6 y7 y8) (W1 cI cZ y0 y1 y2 y3 y6 y7 y8 (n) (came) ((mv) + (1)) (th) f (upd g (F ((bg) + (k))).toNat (iI (nm lo (2 ^ lv.toNat) t k))) z sp rf rc) := hD
                  have hAg := AR_up (k := F ((bg) + (k))) (v := nm lo (2 ^ lv.toNat) t k) hAg (by omega)
                  generalize upd g (F ((bg) + (k))).toNat (iI (nm lo (2 ^ lv.toNat) t k)) = g at hP hD hAg
                  refine pv_iinc (lv' := [(7, .int (iI (k + 1))), (9, .int (iI (nm lo (2 ^ lv.toNat) t k))), (8, .int (iI (F ((bg) + (k))))), (0, .ref y0), (1, .int (iI (q))), (2, .int (iI (lv))), (3, .int (iI (lo))), (4, .int (iI (2 ^ lv.toNat))), (5, .int (iI (t))), (6, .int (iI (bg)))]) hx hb dX1_spreads_191 hl (k := 9) rfl (by decide) rfl (fun ls hl => ?_)
                  refine lv_goto (tgt := 116) hx hb dX1_spreads_194 (by decide) ?_
                  exact ih (k + 1) ((mv) + (1)) (_) _ _ ls (by omega) (by omega) (by rw [hmv, cn_t _ (by omega) (decide_eq_true ⟨c_158, c_170⟩)]; omega) (fun j h0 h1 => by unfold uI; rcases (show j = bg + k ∨ j ≠ bg + k by omega) with z | z; (rw [z, if_pos rfl, if_pos (by omega), show bg + k - bg = k by omega]); (rw [if_neg (fun z2 => z (hFi _ _ h0 h1 (by omega) (by omega) z2)), hG2 j h0 h1]; by_cases z3 : bg ≤ j ∧ j < bg + k; rw [if_pos z3, if_pos (by omega)]; rw [if_neg z3, if_neg (by omega)])) ⟨f, g, z, sp, rf, rc, hAf, hAg, hAz, hAsp, hArf, hArc, hP, hD.weaken (fun _ _ _ h => hmb _ h)⟩ hS (lv_sub hl [3, 4, 5, 6, 7, 8, 9, 0] rfl)
        exact hloop116 ((t : Int).toNat + 1) (0) (MV) (G) _ _ ls (by omega) (by omega) (by show MV = MV + 0; omega) (fun j h0 h1 => by rw [if_neg (by omega)]) ⟨f, g, z, sp, rf, rc, hAf, hAg, hAz, hAsp, hArf, hArc, hP, hD.weaken (fun _ _ _ h => hmb _ h)⟩ hS (lv_sub hl [1, 2, 3, 4, 5, 6, 7, 0] rfl)
      · -- 20f
        refine lv_iload hx hb dX1_spreads_23 (lv_at hl 7 rfl) ?_
        refine lv_iload_n hx hb dX1_spreads_25 rfl (lv_at hl 1 rfl) ?_
        refine pv_icmp_eq (tgt := 68) hx hb dX1_spreads_26 (by decide) (by omega) (fun c_26 => ?_) (fun c_26 => ?_)
        · -- 26t
          refine pv_iconst hx hb dX1_spreads_68 ?_
          refine lv_istore (lv' := [(8, .int (iI (0))), (0, .ref y0), (1, .int (iI (q))), (2, .int (iI (lv))), (3, .int (iI (lo))), (4, .int (iI (2 ^ lv.toNat))), (5, .int (iI (n9))), (6, .int (iI (fs))), (7, .int (iI (k)))]) hx hb dX1_spreads_69 hl (by decide) rfl (fun ls hl => ?_)
          refine lv_iload hx hb dX1_spreads_71 (lv_at hl 6 rfl) ?_
          refine lv_iload hx hb dX1_spreads_73 (lv_at hl 0 rfl) ?_
          refine pv_if_eq (tgt := 82) hx hb dX1_spreads_75 (by decide) (by omega) (fun c_75 => ?_) (fun c_75 => ?_)
          · -- 75t
            refine pv_iconst hx hb dX1_spreads_82 ?_
            refine pv_iadd hx hb dX1_spreads_83 ?_
            refine lv_istore (lv' := [(5, .int (iI ((n9) + (0)))), (8, .int (iI (0))), (0, .ref y0), (1, .int (iI (q))), (2, .int (iI (lv))), (3, .int (iI (lo))), (4, .int (iI (2 ^ lv.toNat))), (6, .int (iI (fs))), (7, .int (iI (k)))]) hx hb dX1_spreads_84 hl (by decide) rfl (fun ls hl => ?_)
            refine lv_iload hx hb dX1_spreads_86 (lv_at hl 1 rfl) ?_
            refine pv_if_eq (tgt := 103) hx hb dX1_spreads_88 (by decide) (by omega) (fun c_88 => ?_) (fun c_88 => ?_)
            · -- 88t
              refine lv_iload hx hb dX1_spreads_103 (lv_at hl 7 rfl) ?_
              refine lv_istore (lv' := [(6, .int (iI (fs))), (5, .int (iI ((n9) + (0)))), (8, .int (iI (0))), (0, .ref y0), (1, .int (iI (q))), (2, .int (iI (lv))), (3, .int (iI (lo))), (4, .int (iI (2 ^ lv.toNat))), (7, .int (iI (k)))]) hx hb dX1_spreads_105 hl (by decide) rfl (fun ls hl => ?_)
              refine pv_iinc (lv' := [(7, .int (iI (k + 1))), (6, .int (iI (fs))), (5, .int (iI ((n9) + (0)))), (8, .int (iI (0))), (0, .ref y0), (1, .int (iI (q))), (2, .int (iI (lv))), (3, .int (iI (lo))), (4, .int (iI (2 ^ lv.toNat)))]) hx hb dX1_spreads_107 hl (k := 8) rfl (by decide) rfl (fun ls hl => ?_)
              refine lv_goto (tgt := 14) hx hb dX1_spreads_110 (by decide) ?_
              exact ih (k + 1) ((n9) + (0)) (fs) _ _ ls (by omega) (by omega) (by rw [hn9]; (repeat' split) <;> omega) (by (split at hfs) <;> split <;> omega) ⟨f, g, z, sp, rf, rc, hAf, hAg, hAz, hAsp, hArf, hArc, hP, hD.weaken (fun _ _ _ h => hmb _ h)⟩ hS (lv_sub hl [4, 5, 6, 7, 8, 2, 1, 0] rfl)
            · exact absurd c_88 (by omega)
          · exact absurd c_75 (by omega)
        · -- 26f
          have hqk := hQ k (by omega) (by omega) c_26
          refine lv_aload_n hx hb dX1_spreads_29 rfl (lv_at hl 0 rfl) ?_
          refine va_get (D := D) (ci := 1) (v := .ref y2) (C := RX1) (T := TX1) (N := 10) hx hb hts hin hown hK hP 0 rfl rfl 2 (by decide) q_marks (fun _ h9 => h9) rfl dX1_spreads_30 ?_
          refine lv_aload_n hx hb dX1_spreads_33 rfl (lv_at hl 0 rfl) ?_
          refine va_get (D := D) (ci := 1) (v := .ref y1) (C := RX1) (T := TX1) (N := 10) hx hb hts hin hown hK hP 0 rfl rfl 0 (by decide) q_order (fun _ h9 => h9) rfl dX1_spreads_34 ?_
          refine lv_iload hx hb dX1_spreads_37 (lv_at hl 7 rfl) ?_
          refine pv_iald (i := k) (v := F (k)) hx hb hK hP 1 0 rfl rfl (by omega) (by decide) (hAf _ (by omega) (by omega)) dX1_spreads_39 ?_
          have hfk := hF k (by omega) (by omega)
          refine pv_iald (i := F (k)) (v := G (F (k))) hx hb hK hP 2 0 rfl rfl (by omega) (by decide) (hAg _ (by omega) (by omega)) dX1_spreads_40 ?_
          refine lv_iload_n hx hb dX1_spreads_41 rfl (lv_at hl 3 rfl) ?_
          refine pv_icmp_lt (tgt := 68) hx hb dX1_spreads_42 (by decide) (by omega) (fun c_42 => ?_) (fun c_42 => ?_)
          · -- 42t
            refine pv_iconst hx hb dX1_spreads_68 ?_
            refine lv_istore (lv' := [(8, .int (iI (0))), (0, .ref y0), (1, .int (iI (q))), (2, .int (iI (lv))), (3, .int (iI (lo))), (4, .int (iI (2 ^ lv.toNat))), (5, .int (iI (n9))), (6, .int (iI (fs))), (7, .int (iI (k)))]) hx hb dX1_spreads_69 hl (by decide) rfl (fun ls hl => ?_)
            refine lv_iload hx hb dX1_spreads_71 (lv_at hl 6 rfl) ?_
            refine lv_iload hx hb dX1_spreads_73 (lv_at hl 0 rfl) ?_
            refine pv_if_eq (tgt := 82) hx hb dX1_spreads_75 (by decide) (by omega) (fun c_75 => ?_) (fun c_75 => ?_)
            · -- 75t
              refine pv_iconst hx hb dX1_spreads_82 ?_
              refine pv_iadd hx hb dX1_spreads_83 ?_
              refine lv_istore (lv' := [(5, .int (iI ((n9) + (0)))), (8, .int (iI (0))), (0, .ref y0), (1, .int (iI (q))), (2, .int (iI (lv))), (3, .int (iI (lo))), (4, .int (iI (2 ^ lv.toNat))), (6, .int (iI (fs))), (7, .int (iI (k)))]) hx hb dX1_spreads_84 hl (by decide) rfl (fun ls hl => ?_)
              refine lv_iload hx hb dX1_spreads_86 (lv_at hl 1 rfl) ?_
              refine pv_if_eq (tgt := 103) hx hb dX1_spreads_88 (by decide) (by omega) (fun c_88 => ?_) (fun c_88 => ?_)
              · -- 88t
                refine lv_iload hx hb dX1_spreads_103 (lv_at hl 7 rfl) ?_
                refine lv_istore (lv' := [(6, .int (iI (fs))), (5, .int (iI ((n9) + (0)))), (8, .int (iI (0))), (0, .ref y0), (1, .int (iI (q))), (2, .int (iI (lv))), (3, .int (iI (lo))), (4, .int (iI (2 ^ lv.toNat))), (7, .int (iI (k)))]) hx hb dX1_spreads_105 hl (by decide) rfl (fun ls hl => ?_)
                refine pv_iinc (lv' := [(7, .int (iI (k + 1))), (6, .int (iI (fs))), (5, .int (iI ((n9) + (0)))), (8, .int (iI (0))), (0, .ref y0), (1, .int (iI (q))), (2, .int (iI (lv))), (3, .int (iI (lo))), (4, .int (iI (2 ^ lv.toNat)))]) hx hb dX1_spreads_107 hl (k := 8) rfl (by decide) rfl (fun ls hl => ?_)
                refine lv_goto (tgt := 14) hx hb dX1_spreads_110 (by decide) ?_
                exact ih (k + 1) ((n9) + (0)) (fs) _ _ ls (by omega) (by omega) (by have z7 : ¬ (bg ≤ k ∧ k < bg + t) := (fun z => by (have z8 := (hish k (by omega) (by omega) c_26).mpr z); omega); rw [hn9]; (repeat' split) <;> omega) (by have z7 : ¬ (bg ≤ k ∧ k < bg + t) := (fun z => by (have z8 := (hish k (by omega) (by omega) c_26).mpr z); omega); (split at hfs) <;> split <;> omega) ⟨f, g, z, sp, rf, rc, hAf, hAg, hAz, hAsp, hArf, hArc, hP, hD.weaken (fun _ _ _ h => hmb _ h)⟩ hS (lv_sub hl [4, 5, 6, 7, 8, 2, 1, 0] rfl)
              · exact absurd c_88 (by omega)
            · exact absurd c_75 (by omega)
          · -- 42f
            refine lv_aload_n hx hb dX1_spreads_45 rfl (lv_at hl 0 rfl) ?_
            refine va_get (D := D) (ci := 1) (v := .ref y2) (C := RX1) (T := TX1) (N := 10) hx hb hts hin hown hK hP 0 rfl rfl 2 (by decide) q_marks (fun _ h9 => h9) rfl dX1_spreads_46 ?_
            refine lv_aload_n hx hb dX1_spreads_49 rfl (lv_at hl 0 rfl) ?_
            refine va_get (D := D) (ci := 1) (v := .ref y1) (C := RX1) (T := TX1) (N := 10) hx hb hts hin hown hK hP 0 rfl rfl 0 (by decide) q_order (fun _ h9 => h9) rfl dX1_spreads_50 ?_
            refine lv_iload hx hb dX1_spreads_53 (lv_at hl 7 rfl) ?_
            refine pv_iald (i := k) (v := F (k)) hx hb hK hP 1 0 rfl rfl (by omega) (by decide) (hAf _ (by omega) (by omega)) dX1_spreads_55 ?_
            have hfk := hF k (by omega) (by omega)
            refine pv_iald (i := F (k)) (v := G (F (k))) hx hb hK hP 2 0 rfl rfl (by omega) (by decide) (hAg _ (by omega) (by omega)) dX1_spreads_56 ?_
            refine lv_iload_n hx hb dX1_spreads_57 rfl (lv_at hl 3 rfl) ?_
            refine lv_iload hx hb dX1_spreads_58 (lv_at hl 4 rfl) ?_
            refine pv_iadd hx hb dX1_spreads_60 ?_
            refine pv_icmp_ge (tgt := 68) hx hb dX1_spreads_61 (by decide) (by omega) (fun c_61 => ?_) (fun c_61 => ?_)
            · -- 61t
              refine pv_iconst hx hb dX1_spreads_68 ?_
              refine lv_istore (lv' := [(8, .int (iI (0))), (0, .ref y0), (1, .int (iI (q))), (2, .int (iI (lv))), (3, .int (iI (lo))), (4, .int (iI (2 ^ lv.toNat))), (5, .int (iI (n9))), (6, .int (iI (fs))), (7, .int (iI (k)))]) hx hb dX1_spreads_69 hl (by decide) rfl (fun ls hl => ?_)
              refine lv_iload hx hb dX1_spreads_71 (lv_at hl 6 rfl) ?_
              refine lv_iload hx hb dX1_spreads_73 (lv_at hl 0 rfl) ?_
              refine pv_if_eq (tgt := 82) hx hb dX1_spreads_75 (by decide) (by omega) (fun c_75 => ?_) (fun c_75 => ?_)
              · -- 75t
                refine pv_iconst hx hb dX1_spreads_82 ?_
                refine pv_iadd hx hb dX1_spreads_83 ?_
                refine lv_istore (lv' := [(5, .int (iI ((n9) + (0)))), (8, .int (iI (0))), (0, .ref y0), (1, .int (iI (q))), (2, .int (iI (lv))), (3, .int (iI (lo))), (4, .int (iI (2 ^ lv.toNat))), (6, .int (iI (fs))), (7, .int (iI (k)))]) hx hb dX1_spreads_84 hl (by decide) rfl (fun ls hl => ?_)
                refine lv_iload hx hb dX1_spreads_86 (lv_at hl 1 rfl) ?_
                refine pv_if_eq (tgt := 103) hx hb dX1_spreads_88 (by decide) (by omega) (fun c_88 => ?_) (fun c_88 => ?_)
                · -- 88t
                  refine lv_iload hx hb dX1_spreads_103 (lv_at hl 7 rfl) ?_
                  refine lv_istore (lv' := [(6, .int (iI (fs))), (5, .int (iI ((n9) + (0)))), (8, .int (iI (0))), (0, .ref y0), (1, .int (iI (q))), (2, .int (iI (lv))), (3, .int (iI (lo))), (4, .int (iI (2 ^ lv.toNat))), (7, .int (iI (k)))]) hx hb dX1_spreads_105 hl (by decide) rfl (fun ls hl => ?_)
                  refine pv_iinc (lv' := [(7, .int (iI (k + 1))), (6, .int (iI (fs))), (5, .int (iI ((n9) + (0)))), (8, .int (iI (0))), (0, .ref y0), (1, .int (iI (q))), (2, .int (iI (lv))), (3, .int (iI (lo))), (4, .int (iI (2 ^ lv.toNat)))]) hx hb dX1_spreads_107 hl (k := 8) rfl (by decide) rfl (fun ls hl => ?_)
                  refine lv_goto (tgt := 14) hx hb dX1_spreads_110 (by decide) ?_
                  exact ih (k + 1) ((n9) + (0)) (fs) _ _ ls (by omega) (by omega) (by have z7 : ¬ (bg ≤ k ∧ k < bg + t) := (fun z => by (have z8 := (hish k (by omega) (by omega) c_26).mpr z); omega); rw [hn9]; (repeat' split) <;> omega) (by have z7 : ¬ (bg ≤ k ∧ k < bg + t) := (fun z => by (have z8 := (hish k (by omega) (by omega) c_26).mpr z); omega); (split at hfs) <;> split <;> omega) ⟨f, g, z, sp, rf, rc, hAf, hAg, hAz, hAsp, hArf, hArc, hP, hD.weaken (fun _ _ _ h => hmb _ h)⟩ hS (lv_sub hl [4, 5, 6, 7, 8, 2, 1, 0] rfl)
                · exact absurd c_88 (by omega)
              · exact absurd c_75 (by omega)
            · -- 61f
              refine pv_iconst hx hb dX1_spreads_64 ?_
              refine lv_goto (tgt := 69) hx hb dX1_spreads_65 (by decide) ?_
              refine lv_istore (lv' := [(8, .int (iI (1))), (0, .ref y0), (1, .int (iI (q))), (2, .int (iI (lv))), (3, .int (iI (lo))), (4, .int (iI (2 ^ lv.toNat))), (5, .int (iI (n9))), (6, .int (iI (fs))), (7, .int (iI (k)))]) hx hb dX1_spreads_69 hl (by decide) rfl (fun ls hl => ?_)
              refine lv_iload hx hb dX1_spreads_71 (lv_at hl 6 rfl) ?_
              refine lv_iload hx hb dX1_spreads_73 (lv_at hl 0 rfl) ?_
              refine pv_if_eq (tgt := 82) hx hb dX1_spreads_75 (by decide) (by omega) (fun c_75 => ?_) (fun c_75 => ?_)
              · exact absurd c_75 (by omega)
              · -- 75f
                refine pv_iconst hx hb dX1_spreads_78 ?_
                refine lv_goto (tgt := 83) hx hb dX1_spreads_79 (by decide) ?_
                refine pv_iadd hx hb dX1_spreads_83 ?_
                refine lv_istore (lv' := [(5, .int (iI ((n9) + (1)))), (8, .int (iI (1))), (0, .ref y0), (1, .int (iI (q))), (2, .int (iI (lv))), (3, .int (iI (lo))), (4, .int (iI (2 ^ lv.toNat))), (6, .int (iI (fs))), (7, .int (iI (k)))]) hx hb dX1_spreads_84 hl (by decide) rfl (fun ls hl => ?_)
                refine lv_iload hx hb dX1_spreads_86 (lv_at hl 1 rfl) ?_
                refine pv_if_eq (tgt := 103) hx hb dX1_spreads_88 (by decide) (by omega) (fun c_88 => ?_) (fun c_88 => ?_)
                · exact absurd c_88 (by omega)
                · -- 88f
                  refine lv_iload hx hb dX1_spreads_91 (lv_at hl 8 rfl) ?_
                  refine lv_iload hx hb dX1_spreads_93 (lv_at hl 7 rfl) ?_
                  refine pv_icmp_ge (tgt := 103) hx hb dX1_spreads_95 (by decide) (by omega) (fun c_95 => ?_) (fun c_95 => ?_)
                  · -- 95t
                    refine lv_iload hx hb dX1_spreads_103 (lv_at hl 7 rfl) ?_
                    refine lv_istore (lv' := [(6, .int (iI (fs))), (5, .int (iI ((n9) + (1)))), (8, .int (iI (1))), (0, .ref y0), (1, .int (iI (q))), (2, .int (iI (lv))), (3, .int (iI (lo))), (4, .int (iI (2 ^ lv.toNat))), (7, .int (iI (k)))]) hx hb dX1_spreads_105 hl (by decide) rfl (fun ls hl => ?_)
                    refine pv_iinc (lv' := [(7, .int (iI (k + 1))), (6, .int (iI (fs))), (5, .int (iI ((n9) + (1)))), (8, .int (iI (1))), (0, .ref y0), (1, .int (iI (q))), (2, .int (iI (lv))), (3, .int (iI (lo))), (4, .int (iI (2 ^ lv.toNat)))]) hx hb dX1_spreads_107 hl (k := 8) rfl (by decide) rfl (fun ls hl => ?_)
                    refine lv_goto (tgt := 14) hx hb dX1_spreads_110 (by decide) ?_
                    exact ih (k + 1) ((n9) + (1)) (fs) _ _ ls (by omega) (by omega) (by have z9 := (hish k (by omega) (by omega) c_26).mp ⟨by omega, by omega⟩; rw [hn9]; (repeat' split) <;> omega) (by have z9 := (hish k (by omega) (by omega) c_26).mp ⟨by omega, by omega⟩; (split at hfs) <;> split <;> omega) ⟨f, g, z, sp, rf, rc, hAf, hAg, hAz, hAsp, hArf, hArc, hP, hD.weaken (fun _ _ _ h => hmb _ h)⟩ hS (lv_sub hl [4, 5, 6, 7, 8, 2, 1, 0] rfl)
                  · -- 95f
                    refine lv_iload hx hb dX1_spreads_98 (lv_at hl 8 rfl) ?_
                    refine lv_goto (tgt := 105) hx hb dX1_spreads_100 (by decide) ?_
                    refine lv_istore (lv' := [(6, .int (iI (k))), (5, .int (iI ((n9) + (1)))), (8, .int (iI (1))), (0, .ref y0), (1, .int (iI (q))), (2, .int (iI (lv))), (3, .int (iI (lo))), (4, .int (iI (2 ^ lv.toNat))), (7, .int (iI (k)))]) hx hb dX1_spreads_105 hl (by decide) rfl (fun ls hl => ?_)
                    refine pv_iinc (lv' := [(7, .int (iI (k + 1))), (6, .int (iI (k))), (5, .int (iI ((n9) + (1)))), (8, .int (iI (1))), (0, .ref y0), (1, .int (iI (q))), (2, .int (iI (lv))), (3, .int (iI (lo))), (4, .int (iI (2 ^ lv.toNat)))]) hx hb dX1_spreads_107 hl (k := 8) rfl (by decide) rfl (fun ls hl => ?_)
                    refine lv_goto (tgt := 14) hx hb dX1_spreads_110 (by decide) ?_
                    exact ih (k + 1) ((n9) + (1)) (k) _ _ ls (by omega) (by omega) (by have z9 := (hish k (by omega) (by omega) c_26).mp ⟨by omega, by omega⟩; rw [hn9]; (repeat' split) <;> omega) (by have z9 := (hish k (by omega) (by omega) c_26).mp ⟨by omega, by omega⟩; (split at hfs) <;> split <;> omega) ⟨f, g, z, sp, rf, rc, hAf, hAg, hAz, hAsp, hArf, hArc, hP, hD.weaken (fun _ _ _ h => hmb _ h)⟩ hS (lv_sub hl [4, 5, 6, 7, 8, 2, 1, 0] rfl)
  exact hloop14 ((n : Int).toNat + 1) (0) (1) (q) _ _ ls (by omega) (by omega) (by rw [if_pos (by omega)]) (by rw [if_pos (by omega)]) ⟨f, g, z, sp, rf, rc, hAf, hAg, hAz, hAsp, hArf, hArc, hP, hD.weaken (fun _ _ _ h => hmb _ h)⟩ hS (lv_sub hl [4, 5, 6, 7, 3, 2, 1, 0] rfl)
set_option maxHeartbeats 4000000 in
set_option maxRecDepth 100000 in
theorem c_M_puts (l : Launch) (D : va_G) (cI cZ : ClassId) (base st : Nat) (Z : Nat → Nat) (y0 y1 y2 y3 y6 y7 y8 : Nat) {n came MV th : Int} {F G ZN SP RF RC : Int → Int} (hn : 0 ≤ n ∧ n < 60) (hF : ∀ k : Int, 0 ≤ k → k < n → 0 ≤ F k ∧ F k < 200) (hFi : ∀ i j : Int, 0 ≤ i → i < n → 0 ≤ j → j < n → F i = F j → i = j) (Gp : Int → Int) (hGM : ∀ k : Int, 0 ≤ k → k < n → G (F k) = Gp k) (hG : ∀ k : Int, 0 ≤ k → k < n → 0 ≤ Gp k ∧ Gp k ≤ 255) (hs : SD Gp n) (fo : Int) (hfr : 0 ≤ fo ∧ fo < 200) (hfo : ∀ k : Int, 0 ≤ k → k < n → F k ≠ fo) (q : Int) (hq : 0 ≤ q ∧ q ≤ n) (G2 : Int → Int) (dm : Int) (SP2 : Int → Int) (hPT : PT Gp n q SP G2 dm SP2) : mu_M l yX1_puts wsX1_puts ({ frames := 2, cells := 0, slots := 0, locals := 49 } : Room) [.ref y0, .int (iI (fo)), .int (iI (q))] (MP D cI cZ base st Z y0 y1 y2 y3 y6 y7 y8 n came MV th F G ZN SP RF RC) none (fun H => ∃ G3 : Int → Int, (∀ k : Int, 0 ≤ k → k < n + 1 → G3 (insF F q fo k) = G2 k) ∧ MW D cI cZ base y0 y1 y2 y3 y6 y7 y8 (n + 1) (came) (MV + dm) (th) (insF F q fo) (G3) (ZN) (SP2) (RF) (RC) H) (mM y0 y1 y2 y3 y6 y7 y8) := by
  refine mu_of (cc := cX1_puts) (maxL := 7) (ret := none) (own := RX1) (by decide) rfl rfl (Nat.le_of_ble_eq_true rfl) ?_
  intro p e s m below meth c ls B hCP hl hS
  obtain ⟨hx, hb, hml, hr, hts, hown, hlocks⟩ := B
  obtain ⟨⟨hK, hZL, ⟨hstb, xs, hXL, hAL⟩, hTW⟩, f, g, z, sp, rf, rc, hAf, hAg, hAz, hAsp, hArf, hArc, hP, hDb⟩ := id hCP
  have hD := MW_mD hDb
  have hmb := mM_b hDb
  have hbl := MW_lt hCP.2
  have hSW0 := hCP.1
  have hl : lv_has ls 7 [(0, .ref y0), (1, .int (iI (fo))), (2, .int (iI (q)))] := hl
  have hin : ∀ w ∈ u_ws RX1 TX1 10, w ∈ wsX1_puts := by decide +kernel
  have q_order := hts (.fieldLink RX1 7 "ShelfMarksModel" "order" "[I") (by decide +kernel)
  have q_marks := hts (.fieldLink RX1 13 "ShelfMarksModel" "marks" "[I") (by decide +kernel)
  have q_size := hts (.fieldLink RX1 36 "ShelfMarksModel" "size" "I") (by decide +kernel)
  refine lv_aload_n hx hb dX1_puts_0 rfl (lv_at hl 0 rfl) ?_
  refine lv_iload_n hx hb dX1_puts_1 rfl (lv_at hl 2 rfl) ?_
  have hn6 : 0 ≤ n ∧ n ≤ 60 := by omega
  have hm1 := ma_rg hG q
  have hm2 := ma_rg hG (q - 1)
  have hCP : MP D cI cZ base st Z y0 y1 y2 y3 y6 y7 y8 (n) (came) (MV) (th) (F) (G) (ZN) (SP) (RF) (RC) s s.heap := ⟨hSW0.behind hbl hmb hS, ⟨f, g, z, sp, rf, rc, hAf, hAg, hAz, hAsp, hArf, hArc, hP, hD.weaken (fun _ _ _ h => hmb _ h)⟩⟩
  refine pu_callV (v := ma Gp n (q - 1)) (As := [.int (iI (q))]) (rest := []) MP_mv ⟨hx, hb, hml, hown, hts⟩ (c_M_markAhead l D cI cZ base st Z y0 y1 y2 y3 y6 y7 y8 hn6 hF Gp hGM q hq _ rfl) (cwV 1 hts gX1_puts_X1_markAhead rfl rfl rfl (by decide +kernel) ⟨(Nat.le_of_ble_eq_true rfl), (Nat.le_of_ble_eq_true rfl)⟩) hCP (MP_rc hCP) rfl rfl hl.1 (Nat.le_of_ble_eq_true rfl) dX1_puts_2 ⟨Nat.zero_le _, Nat.zero_le _⟩ ?_
  refine lv_istore_n (lv' := [(3, .int (iI (ma Gp n (q - 1)))), (0, .ref y0), (1, .int (iI (fo))), (2, .int (iI (q)))]) hx hb dX1_puts_5 rfl hl (by decide) rfl (fun ls hl => ?_)
  refine lv_aload_n hx hb dX1_puts_6 rfl (lv_at hl 1 rfl) ?_
  refine lv_iload_n hx hb dX1_puts_7 rfl (lv_at hl 3 rfl) ?_
  have hCP : MP D cI cZ base st Z y0 y1 y2 y3 y6 y7 y8 (n) (came) (MV) (th) (F) (G) (ZN) (SP) (RF) (RC) s s.heap := ⟨hSW0.behind hbl hmb hS, ⟨f, g, z, sp, rf, rc, hAf, hAg, hAz, hAsp, hArf, hArc, hP, hD.weaken (fun _ _ _ h => hmb _ h)⟩⟩
  refine pu_callV (v := ma Gp n q) (As := [.int (iI (q))]) (rest := []) MP_mv ⟨hx, hb, hml, hown, hts⟩ (c_M_markBehind l D cI cZ base st Z y0 y1 y2 y3 y6 y7 y8 hn6 hF Gp hGM q hq _ rfl) (cwV 1 hts gX1_puts_X1_markBehind rfl rfl rfl (by decide +kernel) ⟨(Nat.le_of_ble_eq_true rfl), (Nat.le_of_ble_eq_true rfl)⟩) hCP (MP_rc hCP) rfl rfl hl.1 (Nat.le_of_ble_eq_true rfl) dX1_puts_8 ⟨Nat.zero_le _, Nat.zero_le _⟩ ?_
  refine lv_istore (lv' := [(4, .int (iI (ma Gp n q))), (3, .int (iI (ma Gp n (q - 1)))), (0, .ref y0), (1, .int (iI (fo))), (2, .int (iI (q)))]) hx hb dX1_puts_11 hl (by decide) rfl (fun ls hl => ?_)
  obtain ⟨F1, hAf9, hF1⟩ := AR_all hAf
  have hAf := hAf9 (n + 1)
  refine lv_aload_n hx hb dX1_puts_13 rfl (lv_at hl 2 rfl) ?_
  refine va_get (D := D) (ci := 1) (v := .int (iI (n))) (C := RX1) (T := TX1) (N := 10) hx hb hts hin hown hK hP 0 rfl rfl 1 (by decide) q_size (fun _ h9 => h9) rfl dX1_puts_14 ?_
  refine lv_istore (lv' := [(5, .int (iI (n))), (4, .int (iI (ma Gp n q))), (3, .int (iI (ma Gp n (q - 1)))), (0, .ref y0), (1, .int (iI (fo))), (2, .int (iI (q)))]) hx hb dX1_puts_17 hl (by decide) rfl (fun ls hl => ?_)
  have hloop19 : ∀ (fuel : Nat) (k : Int) (F2 : Int → Int) (H : Heap) (locs : List Loc) (ls : Array Slot), (k - q) < fuel → (q ≤ k ∧ k ≤ n) → (∀ j : Int, 0 ≤ j → j ≤ k → j < n → F2 j = F j) → (∀ j : Int, k < j → j ≤ n → F2 j = F (j - 1)) → MW1 D cI cZ base y0 y1 y2 y3 y6 y7 y8 (n) (came) (MV) (th) (F2) (G) (ZN) (SP) (RF) (RC) H → va_S (mM y0 y1 y2 y3 y6 y7 y8) s.heap H locs → lv_has ls 7 [(0, .ref y0), (1, .int (iI (fo))), (2, .int (iI (q))), (3, .int (iI (ma Gp n (q - 1)))), (4, .int (iI (ma Gp n q))), (5, .int (iI (k)))] → W p l e ({ frames := 2, cells := 0, slots := 0, locals := 49 } : Room) s m ([.ref y0, .int (iI (fo)), .int (iI (q))] : List Value).toArray below meth c H locs 0 0 (MQ below (mu_Q none (fun H => ∃ G3 : Int → Int, (∀ k : Int, 0 ≤ k → k < n + 1 → G3 (insF F q fo k) = G2 k) ∧ MW D cI cZ base y0 y1 y2 y3 y6 y7 y8 (n + 1) (came) (MV + dm) (th) (insF F q fo) (G3) (ZN) (SP2) (RF) (RC) H) (mM y0 y1 y2 y3 y6 y7 y8)) ([.ref y0, .int (iI (fo)), .int (iI (q))] : List Value).toArray s 0 0 (mM y0 y1 y2 y3 y6 y7 y8)) (F0 m 19 ls []) := by
    intro fuel
    induction fuel with
    | zero => intro k F2 H locs ls hfu hk hFa hFb hC9 hS hl; exfalso; omega
    | succ fuel ih =>
      intro k F2 H locs ls hfu hk hFa hFb hC9 hS hl
      obtain ⟨f, g, z, sp, rf, rc, hAf, hAg, hAz, hAsp, hArf, hArc, hP, hDb⟩ := hC9
      have hD := MW_mD hDb
      refine lv_iload hx hb dX1_puts_19 (lv_at hl 5 rfl) ?_
      refine lv_iload_n hx hb dX1_puts_21 rfl (lv_at hl 2 rfl) ?_
      refine pv_icmp_le (tgt := 47) hx hb dX1_puts_22 (by decide) (by omega) (fun c_22 => ?_) (fun c_22 => ?_)
      · -- 22t
        have hfin := ins_fin (x := fo) hq.2 (fun k h0 h1 h2 => hFa k h0 (by omega) h2) (fun k h0 h1 => hFb k (by omega) h1)
        refine lv_aload_n hx hb dX1_puts_47 rfl (lv_at hl 0 rfl) ?_
        refine va_get (D := D) (ci := 1) (v := .ref y1) (C := RX1) (T := TX1) (N := 10) hx hb hts hin hown hK hP 0 rfl rfl 0 (by decide) q_order (fun _ h9 => h9) rfl dX1_puts_48 ?_
        refine lv_iload_n hx hb dX1_puts_51 rfl (lv_at hl 2 rfl) ?_
        refine lv_iload_n hx hb dX1_puts_52 rfl (lv_at hl 1 rfl) ?_
        refine pv_iast (i := q) (v := fo) hx hb hK hP hD hS 1 0 rfl rfl (by omega) (by decide) dX1_puts_53 (fun H locs hP hD hS => ?_)
        have hP : va_P D vwCl (W1 cI cZ y0 y1 y2 y3 y6 y7 y8 (n) (came) (MV) (th) (upd f (q).toNat (iI (fo))) g z sp rf rc) H := hP
        have hD : va_D (mM y0 y1 y2 y3 y6 y7 y8) (W1 cI cZ y0 y1 y2 y3 y6 y7 y8 (n) (came) (MV) (th) (upd f (q).toNat (iI (fo))) g z sp rf rc) := hD
        have hAf := AR_up (k := q) (v := fo) hAf (by omega)
        generalize upd f (q).toNat (iI (fo)) = f at hP hD hAf
        have hAf : AR f (n + 1) (insF F q fo) := AR_to hAf (Int.le_refl _) hfin
        rcases hPT with ⟨hfree, rfl, rfl, hsp⟩ | ⟨hfull, lv, hlv, rfl, rfl, rfl⟩
        · -- A
          obtain rfl := hsp.symm
          refine lv_iload hx hb dX1_puts_54 (lv_at hl 4 rfl) ?_
          refine lv_iload_n hx hb dX1_puts_56 rfl (lv_at hl 3 rfl) ?_
          refine pv_isub hx hb dX1_puts_57 ?_
          refine pv_iconst hx hb dX1_puts_58 ?_
          refine pv_icmp_lt (tgt := 85) hx hb dX1_puts_59 (by decide) (by omega) (fun c_59 => ?_) (fun c_59 => ?_)
          · exfalso; omega
          · -- 59f
            refine lv_aload_n hx hb dX1_puts_62 rfl (lv_at hl 0 rfl) ?_
            refine va_get (D := D) (ci := 1) (v := .ref y2) (C := RX1) (T := TX1) (N := 10) hx hb hts hin hown hK hP 0 rfl rfl 2 (by decide) q_marks (fun _ h9 => h9) rfl dX1_puts_63 ?_
            refine lv_iload_n hx hb dX1_puts_66 rfl (lv_at hl 1 rfl) ?_
            refine lv_iload_n hx hb dX1_puts_67 rfl (lv_at hl 3 rfl) ?_
            refine lv_iload hx hb dX1_puts_68 (lv_at hl 4 rfl) ?_
            refine pv_iadd hx hb dX1_puts_70 ?_
            refine pv_iconst hx hb dX1_puts_71 ?_
            refine pv_ishr hx hb dX1_puts_72 (by omega) (by omega) ?_
            rw [show iI (((ma Gp n (q - 1)) + (ma Gp n q)) / 2 ^ (1 : Int).toNat) = iI ((ma Gp n (q - 1) + ma Gp n q) / 2) from congrArg iI ((congrArg (fun z => (ma Gp n (q - 1) + ma Gp n q) / z) (by decide : (2 : Int) ^ (1 : Int).toNat = 2)))]
            refine pv_iast (i := fo) (v := (ma Gp n (q - 1) + ma Gp n q) / 2) hx hb hK hP hD hS 2 0 rfl rfl (by omega) (by decide) dX1_puts_73 (fun H locs hP hD hS => ?_)
            have hP : va_P D vwCl (W1 cI cZ y0 y1 y2 y3 y6 y7 y8 (n) (came) (MV) (th) f (upd g (fo).toNat (iI ((ma Gp n (q - 1) + ma Gp n q) / 2))) z sp rf rc) H := hP
            have hD : va_D (mM y0 y1 y2 y3 y6 y7 y8) (W1 cI cZ y0 y1 y2 y3 y6 y7 y8 (n) (came) (MV) (th) f (upd g (fo).toNat (iI ((ma Gp n (q - 1) + ma Gp n q) / 2))) z sp rf rc) := hD
            have hAg := AR_up (k := fo) (v := (ma Gp n (q - 1) + ma Gp n q) / 2) hAg (by omega)
            generalize upd g (fo).toNat (iI ((ma Gp n (q - 1) + ma Gp n q) / 2)) = g at hP hD hAg
            refine lv_aload_n hx hb dX1_puts_74 rfl (lv_at hl 0 rfl) ?_
            refine lv_dup hx hb dX1_puts_75 rfl ?_
            refine va_get (D := D) (ci := 1) (v := .int (iI (n))) (C := RX1) (T := TX1) (N := 10) hx hb hts hin hown hK hP 0 rfl rfl 1 (by decide) q_size (fun _ h9 => h9) rfl dX1_puts_76 ?_
            refine pv_iconst hx hb dX1_puts_79 ?_
            refine pv_iadd hx hb dX1_puts_80 ?_
            refine va_put (D := D) (ci := 1) (v := .int (iI ((n) + (1)))) (ty := .int) (C := RX1) (T := TX1) (N := 10) hx hb hts hin tyX1 tyX1_ok nmX1 hown hK hP hD hS 0 rfl rfl 1 (by decide) q_size (fun _ h9 => h9) rfl (by decide +kernel) rfl rfl (Nat.le_of_ble_eq_true rfl) dX1_puts_81 (fun H locs hP hD hS => ?_)
            have hP : va_P D vwCl (W1 cI cZ y0 y1 y2 y3 y6 y7 y8 ((n) + (1)) (came) (MV) (th) f g z sp rf rc) H := hP
            have hD : va_D (mM y0 y1 y2 y3 y6 y7 y8) (W1 cI cZ y0 y1 y2 y3 y6 y7 y8 ((n) + (1)) (came) (MV) (th) f g z sp rf rc) := hD
            rw [← Int.add_zero MV] at hP hD
            exact mu_vret hx hb hr hlocks hS dX1_puts_84 ⟨_, gm_ins hGM hfo hq, ⟨f, g, z, sp, rf, rc, hAf, hAg, hAz, hAsp, hArf, hArc, hP, hD.weaken (fun _ _ _ h => hmb _ h)⟩⟩
        · -- B
          refine lv_iload hx hb dX1_puts_54 (lv_at hl 4 rfl) ?_
          refine lv_iload_n hx hb dX1_puts_56 rfl (lv_at hl 3 rfl) ?_
          refine pv_isub hx hb dX1_puts_57 ?_
          refine pv_iconst hx hb dX1_puts_58 ?_
          refine pv_icmp_lt (tgt := 85) hx hb dX1_puts_59 (by decide) (by omega) (fun c_59 => ?_) (fun c_59 => ?_)
          · -- 59t
            refine lv_iload_n hx hb dX1_puts_85 rfl (lv_at hl 3 rfl) ?_
            refine pv_if_ge (tgt := 93) hx hb dX1_puts_86 (by decide) (by omega) (fun c_86 => ?_) (fun c_86 => ?_)
            · -- 86t
              refine lv_iload_n hx hb dX1_puts_93 rfl (lv_at hl 3 rfl) ?_
              rw [show iI (ma Gp n (q - 1)) = iI (A0 Gp n q) from congrArg iI ((by unfold A0; rw [if_neg (by omega)]))]
              refine lv_istore (lv' := [(5, .int (iI (A0 Gp n q))), (0, .ref y0), (1, .int (iI (fo))), (2, .int (iI (q))), (3, .int (iI (ma Gp n (q - 1)))), (4, .int (iI (ma Gp n q)))]) hx hb dX1_puts_94 hl (by decide) rfl (fun ls hl => ?_)
              have har := A0_rg hG hq
              have hlv1 := hlv.1
              have hFn := insF_rg (n := n) (q := q) (x := fo) hF hfr hq
              have hQn := insQ (d := 0) hGM hG hq (fo := fo)
              refine lv_aload_n hx hb dX1_puts_96 rfl (lv_at hl 1 rfl) ?_
              refine lv_iload_n hx hb dX1_puts_97 rfl (lv_at hl 3 rfl) ?_
              refine lv_iload hx hb dX1_puts_98 (lv_at hl 0 rfl) ?_
              have hCP : MQ1 D cI cZ base st Z y0 y1 y2 y3 y6 y7 y8 (n) (came) (MV) (th) (insF F q fo) (G) (ZN) (SP) (RF) (RC) s H := ⟨hSW0.behind hbl hmb hS, ⟨f, g, z, sp, rf, rc, hAf, hAg, hAz, hAsp, hArf, hArc, hP, hD.weaken (fun _ _ _ h => hmb _ h)⟩⟩
              refine pu_callV (v := lv) (As := [.int (iI (q)), .int (iI (A0 Gp n q))]) (rest := []) MQ1_mv ⟨hx, hb, hml, hown, hts⟩ (c_M_levelWithout l D cI cZ base st Z y0 y1 y2 y3 y6 y7 y8 hn hFn q hq Gp 0 hs hQn (A0 Gp n q) har lv hlv) (cwV 2 hts gX1_puts_X1_levelWithout rfl rfl rfl (by decide +kernel) ⟨(Nat.le_of_ble_eq_true rfl), (Nat.le_of_ble_eq_true rfl)⟩) hCP (MQ1_rc hCP) rfl rfl hl.1 (Nat.le_of_ble_eq_true rfl) dX1_puts_100 ⟨Nat.zero_le _, Nat.zero_le _⟩ ?_
              refine lv_istore (lv' := [(6, .int (iI (lv))), (5, .int (iI (A0 Gp n q))), (0, .ref y0), (1, .int (iI (fo))), (2, .int (iI (q))), (3, .int (iI (ma Gp n (q - 1)))), (4, .int (iI (ma Gp n q)))]) hx hb dX1_puts_103 hl (by decide) rfl (fun ls hl => ?_)
              refine lv_aload_n hx hb dX1_puts_105 rfl (lv_at hl 2 rfl) ?_
              refine lv_dup hx hb dX1_puts_106 rfl ?_
              refine va_get (D := D) (ci := 1) (v := .int (iI (n))) (C := RX1) (T := TX1) (N := 10) hx hb hts hin hown hK hP 0 rfl rfl 1 (by decide) q_size (fun _ h9 => h9) rfl dX1_puts_107 ?_
              refine pv_iconst hx hb dX1_puts_110 ?_
              refine pv_iadd hx hb dX1_puts_111 ?_
              refine va_put (D := D) (ci := 1) (v := .int (iI ((n) + (1)))) (ty := .int) (C := RX1) (T := TX1) (N := 10) hx hb hts hin tyX1 tyX1_ok nmX1 hown hK hP hD hS 0 rfl rfl 1 (by decide) q_size (fun _ h9 => h9) rfl (by decide +kernel) rfl rfl (Nat.le_of_ble_eq_true rfl) dX1_puts_112 (fun H locs hP hD hS => ?_)
              have hP : va_P D vwCl (W1 cI cZ y0 y1 y2 y3 y6 y7 y8 ((n) + (1)) (came) (MV) (th) f g z sp rf rc) H := hP
              have hD : va_D (mM y0 y1 y2 y3 y6 y7 y8) (W1 cI cZ y0 y1 y2 y3 y6 y7 y8 ((n) + (1)) (came) (MV) (th) f g z sp rf rc) := hD
              refine lv_aload_n hx hb dX1_puts_115 rfl (lv_at hl 2 rfl) ?_
              refine lv_iload_n hx hb dX1_puts_116 rfl (lv_at hl 4 rfl) ?_
              refine lv_iload hx hb dX1_puts_117 (lv_at hl 0 rfl) ?_
              refine lv_iload hx hb dX1_puts_119 (lv_at hl 1 rfl) ?_
              have hsb := sh_b (lv := lv) har (by omega)
              have hp2 := p2_rg (lv := lv) (by omega)
              refine lv_iload hx hb dX1_puts_121 (lv_at hl 0 rfl) ?_
              refine pv_ishr hx hb dX1_puts_123 (by omega) (by omega) ?_
              refine lv_iload hx hb dX1_puts_124 (lv_at hl 0 rfl) ?_
              refine pv_ishl hx hb dX1_puts_126 hsb.1 (by omega) (by omega) ?_
              have hbq := bg_q (lv := lv) hn6 hG hs hq (by omega)
              have hend := ldn_end (G := Gp) (lv := lv) (sh := A0 Gp n q / 2 ^ lv.toNat) hn6
              have hbgr := mb_rg (G := Gp) (m := A0 Gp n q / 2 ^ lv.toNat * 2 ^ lv.toNat) hn.1
              have hCP : MP D cI cZ base st Z y0 y1 y2 y3 y6 y7 y8 ((n) + (1)) (came) (MV) (th) (insF F q fo) (G) (ZN) (SP) (RF) (RC) s H := ⟨hSW0.behind hbl hmb hS, ⟨f, g, z, sp, rf, rc, hAf, hAg, hAz, hAsp, hArf, hArc, hP, hD.weaken (fun _ _ _ h => hmb _ h)⟩⟩
              refine mu_callV (As := [.int (iI (q)), .int (iI (lv)), .int (iI (((A0 Gp n q) / 2 ^ (lv : Int).toNat) * 2 ^ (lv : Int).toNat))]) (rest := []) MP_mv ⟨hx, hb, hml, hown, hts⟩ (c_M_spreads l D cI cZ base st Z y0 y1 y2 y3 y6 y7 y8 (by omega) (fun k h0 h1 => hFn k h0 (by omega)) (insF_inj hFi hfo hq) q (by omega) lv (by omega) _ (by omega) (insF Gp q 0) (fun k h0 h1 h2 => hQn k h0 (by omega) h2) (mb Gp n (A0 Gp n q / 2 ^ lv.toNat * 2 ^ lv.toNat)) (ldn Gp n lv (A0 Gp n q / 2 ^ lv.toNat) + 1) ⟨by omega, by omega, by omega, by omega⟩ (ins_in hn6.1 hs hq (by omega) hbq) _ (dm_new hn6.1 hs hbq hbgr)) (cwV 3 hts gX1_puts_X1_spreads rfl rfl rfl (by decide +kernel) ⟨(Nat.le_of_ble_eq_true rfl), (Nat.le_of_ble_eq_true rfl)⟩) hCP (MP_rc hCP) rfl rfl hl.1 (Nat.le_of_ble_eq_true rfl) dX1_puts_127 ⟨Nat.zero_le _, Nat.zero_le _⟩ hS (fun _ h => h) (fun H locs hC9 hz9 hk9 hS => ?_)
              obtain ⟨G9, hG9, hC9⟩ := hC9
              have hC9 : MW D cI cZ base y0 y1 y2 y3 y6 y7 y8 ((n) + (1)) (came) (MV + mvn Gp q (A0 Gp n q / 2 ^ lv.toNat * 2 ^ lv.toNat) (2 ^ lv.toNat) (mb Gp n (A0 Gp n q / 2 ^ lv.toNat * 2 ^ lv.toNat)) (ldn Gp n lv (A0 Gp n q / 2 ^ lv.toNat) + 1) (ldn Gp n lv (A0 Gp n q / 2 ^ lv.toNat)).toNat) (th) (insF F q fo) (G9) (ZN) (uI SP lv (SP lv + 1)) (RF) (RC) H := hC9
              obtain ⟨f, g, z, sp, rf, rc, hAf, hAg, hAz, hAsp, hArf, hArc, hP, hDb⟩ := hC9
              have hD := MW_mD hDb
              exact mu_vret hx hb hr hlocks hS dX1_puts_130 ⟨G9, sp_gm hGM hq hbq hbgr hG9, ⟨f, g, z, sp, rf, rc, hAf, hAg, hAz, hAsp, hArf, hArc, hP, hD.weaken (fun _ _ _ h => hmb _ h)⟩⟩
            · -- 86f
              refine pv_iconst hx hb dX1_puts_89 ?_
              refine lv_goto (tgt := 94) hx hb dX1_puts_90 (by decide) ?_
              rw [show iI (0) = iI (A0 Gp n q) from congrArg iI ((by unfold A0; rw [if_pos c_86]))]
              refine lv_istore (lv' := [(5, .int (iI (A0 Gp n q))), (0, .ref y0), (1, .int (iI (fo))), (2, .int (iI (q))), (3, .int (iI (ma Gp n (q - 1)))), (4, .int (iI (ma Gp n q)))]) hx hb dX1_puts_94 hl (by decide) rfl (fun ls hl => ?_)
              have har := A0_rg hG hq
              have hlv1 := hlv.1
              have hFn := insF_rg (n := n) (q := q) (x := fo) hF hfr hq
              have hQn := insQ (d := 0) hGM hG hq (fo := fo)
              refine lv_aload_n hx hb dX1_puts_96 rfl (lv_at hl 1 rfl) ?_
              refine lv_iload_n hx hb dX1_puts_97 rfl (lv_at hl 3 rfl) ?_
              refine lv_iload hx hb dX1_puts_98 (lv_at hl 0 rfl) ?_
              have hCP : MQ1 D cI cZ base st Z y0 y1 y2 y3 y6 y7 y8 (n) (came) (MV) (th) (insF F q fo) (G) (ZN) (SP) (RF) (RC) s H := ⟨hSW0.behind hbl hmb hS, ⟨f, g, z, sp, rf, rc, hAf, hAg, hAz, hAsp, hArf, hArc, hP, hD.weaken (fun _ _ _ h => hmb _ h)⟩⟩
              refine pu_callV (v := lv) (As := [.int (iI (q)), .int (iI (A0 Gp n q))]) (rest := []) MQ1_mv ⟨hx, hb, hml, hown, hts⟩ (c_M_levelWithout l D cI cZ base st Z y0 y1 y2 y3 y6 y7 y8 hn hFn q hq Gp 0 hs hQn (A0 Gp n q) har lv hlv) (cwV 2 hts gX1_puts_X1_levelWithout rfl rfl rfl (by decide +kernel) ⟨(Nat.le_of_ble_eq_true rfl), (Nat.le_of_ble_eq_true rfl)⟩) hCP (MQ1_rc hCP) rfl rfl hl.1 (Nat.le_of_ble_eq_true rfl) dX1_puts_100 ⟨Nat.zero_le _, Nat.zero_le _⟩ ?_
              refine lv_istore (lv' := [(6, .int (iI (lv))), (5, .int (iI (A0 Gp n q))), (0, .ref y0), (1, .int (iI (fo))), (2, .int (iI (q))), (3, .int (iI (ma Gp n (q - 1)))), (4, .int (iI (ma Gp n q)))]) hx hb dX1_puts_103 hl (by decide) rfl (fun ls hl => ?_)
              refine lv_aload_n hx hb dX1_puts_105 rfl (lv_at hl 2 rfl) ?_
              refine lv_dup hx hb dX1_puts_106 rfl ?_
              refine va_get (D := D) (ci := 1) (v := .int (iI (n))) (C := RX1) (T := TX1) (N := 10) hx hb hts hin hown hK hP 0 rfl rfl 1 (by decide) q_size (fun _ h9 => h9) rfl dX1_puts_107 ?_
              refine pv_iconst hx hb dX1_puts_110 ?_
              refine pv_iadd hx hb dX1_puts_111 ?_
              refine va_put (D := D) (ci := 1) (v := .int (iI ((n) + (1)))) (ty := .int) (C := RX1) (T := TX1) (N := 10) hx hb hts hin tyX1 tyX1_ok nmX1 hown hK hP hD hS 0 rfl rfl 1 (by decide) q_size (fun _ h9 => h9) rfl (by decide +kernel) rfl rfl (Nat.le_of_ble_eq_true rfl) dX1_puts_112 (fun H locs hP hD hS => ?_)
              have hP : va_P D vwCl (W1 cI cZ y0 y1 y2 y3 y6 y7 y8 ((n) + (1)) (came) (MV) (th) f g z sp rf rc) H := hP
              have hD : va_D (mM y0 y1 y2 y3 y6 y7 y8) (W1 cI cZ y0 y1 y2 y3 y6 y7 y8 ((n) + (1)) (came) (MV) (th) f g z sp rf rc) := hD
              refine lv_aload_n hx hb dX1_puts_115 rfl (lv_at hl 2 rfl) ?_
              refine lv_iload_n hx hb dX1_puts_116 rfl (lv_at hl 4 rfl) ?_
              refine lv_iload hx hb dX1_puts_117 (lv_at hl 0 rfl) ?_
              refine lv_iload hx hb dX1_puts_119 (lv_at hl 1 rfl) ?_
              have hsb := sh_b (lv := lv) har (by omega)
              have hp2 := p2_rg (lv := lv) (by omega)
              refine lv_iload hx hb dX1_puts_121 (lv_at hl 0 rfl) ?_
              refine pv_ishr hx hb dX1_puts_123 (by omega) (by omega) ?_
              refine lv_iload hx hb dX1_puts_124 (lv_at hl 0 rfl) ?_
              refine pv_ishl hx hb dX1_puts_126 hsb.1 (by omega) (by omega) ?_
              have hbq := bg_q (lv := lv) hn6 hG hs hq (by omega)
              have hend := ldn_end (G := Gp) (lv := lv) (sh := A0 Gp n q / 2 ^ lv.toNat) hn6
              have hbgr := mb_rg (G := Gp) (m := A0 Gp n q / 2 ^ lv.toNat * 2 ^ lv.toNat) hn.1
              have hCP : MP D cI cZ base st Z y0 y1 y2 y3 y6 y7 y8 ((n) + (1)) (came) (MV) (th) (insF F q fo) (G) (ZN) (SP) (RF) (RC) s H := ⟨hSW0.behind hbl hmb hS, ⟨f, g, z, sp, rf, rc, hAf, hAg, hAz, hAsp, hArf, hArc, hP, hD.weaken (fun _ _ _ h => hmb _ h)⟩⟩
              refine mu_callV (As := [.int (iI (q)), .int (iI (lv)), .int (iI (((A0 Gp n q) / 2 ^ (lv : Int).toNat) * 2 ^ (lv : Int).toNat))]) (rest := []) MP_mv ⟨hx, hb, hml, hown, hts⟩ (c_M_spreads l D cI cZ base st Z y0 y1 y2 y3 y6 y7 y8 (by omega) (fun k h0 h1 => hFn k h0 (by omega)) (insF_inj hFi hfo hq) q (by omega) lv (by omega) _ (by omega) (insF Gp q 0) (fun k h0 h1 h2 => hQn k h0 (by omega) h2) (mb Gp n (A0 Gp n q / 2 ^ lv.toNat * 2 ^ lv.toNat)) (ldn Gp n lv (A0 Gp n q / 2 ^ lv.toNat) + 1) ⟨by omega, by omega, by omega, by omega⟩ (ins_in hn6.1 hs hq (by omega) hbq) _ (dm_new hn6.1 hs hbq hbgr)) (cwV 3 hts gX1_puts_X1_spreads rfl rfl rfl (by decide +kernel) ⟨(Nat.le_of_ble_eq_true rfl), (Nat.le_of_ble_eq_true rfl)⟩) hCP (MP_rc hCP) rfl rfl hl.1 (Nat.le_of_ble_eq_true rfl) dX1_puts_127 ⟨Nat.zero_le _, Nat.zero_le _⟩ hS (fun _ h => h) (fun H locs hC9 hz9 hk9 hS => ?_)
              obtain ⟨G9, hG9, hC9⟩ := hC9
              have hC9 : MW D cI cZ base y0 y1 y2 y3 y6 y7 y8 ((n) + (1)) (came) (MV + mvn Gp q (A0 Gp n q / 2 ^ lv.toNat * 2 ^ lv.toNat) (2 ^ lv.toNat) (mb Gp n (A0 Gp n q / 2 ^ lv.toNat * 2 ^ lv.toNat)) (ldn Gp n lv (A0 Gp n q / 2 ^ lv.toNat) + 1) (ldn Gp n lv (A0 Gp n q / 2 ^ lv.toNat)).toNat) (th) (insF F q fo) (G9) (ZN) (uI SP lv (SP lv + 1)) (RF) (RC) H := hC9
              obtain ⟨f, g, z, sp, rf, rc, hAf, hAg, hAz, hAsp, hArf, hArc, hP, hDb⟩ := hC9
              have hD := MW_mD hDb
              exact mu_vret hx hb hr hlocks hS dX1_puts_130 ⟨G9, sp_gm hGM hq hbq hbgr hG9, ⟨f, g, z, sp, rf, rc, hAf, hAg, hAz, hAsp, hArf, hArc, hP, hD.weaken (fun _ _ _ h => hmb _ h)⟩⟩
          · exfalso; omega
      · -- 22f
        refine lv_aload_n hx hb dX1_puts_25 rfl (lv_at hl 0 rfl) ?_
        refine va_get (D := D) (ci := 1) (v := .ref y1) (C := RX1) (T := TX1) (N := 10) hx hb hts hin hown hK hP 0 rfl rfl 0 (by decide) q_order (fun _ h9 => h9) rfl dX1_puts_26 ?_
        refine lv_iload hx hb dX1_puts_29 (lv_at hl 5 rfl) ?_
        refine lv_aload_n hx hb dX1_puts_31 rfl (lv_at hl 0 rfl) ?_
        refine va_get (D := D) (ci := 1) (v := .ref y1) (C := RX1) (T := TX1) (N := 10) hx hb hts hin hown hK hP 0 rfl rfl 0 (by decide) q_order (fun _ h9 => h9) rfl dX1_puts_32 ?_
        refine lv_iload hx hb dX1_puts_35 (lv_at hl 5 rfl) ?_
        refine pv_iconst hx hb dX1_puts_37 ?_
        refine pv_isub hx hb dX1_puts_38 ?_
        refine pv_iald (i := (k) - (1)) (v := F (k - 1)) hx hb hK hP 1 0 rfl rfl (by omega) (by decide) ((hAf _ (by omega) (by omega)).trans (congrArg iI (hFa (k - 1) (by omega) (by omega) (by omega)))) dX1_puts_39 ?_
        refine pv_iast (i := k) (v := F (k - 1)) hx hb hK hP hD hS 1 0 rfl rfl (by omega) (by decide) dX1_puts_40 (fun H locs hP hD hS => ?_)
        have hP : va_P D vwCl (W1 cI cZ y0 y1 y2 y3 y6 y7 y8 (n) (came) (MV) (th) (upd f (k).toNat (iI (F (k - 1)))) g z sp rf rc) H := hP
        have hD : va_D (mM y0 y1 y2 y3 y6 y7 y8) (W1 cI cZ y0 y1 y2 y3 y6 y7 y8 (n) (came) (MV) (th) (upd f (k).toNat (iI (F (k - 1)))) g z sp rf rc) := hD
        have hAf := AR_up (k := k) (v := F (k - 1)) hAf (by omega)
        generalize upd f (k).toNat (iI (F (k - 1))) = f at hP hD hAf
        refine pv_iinc (lv' := [(5, .int (iI (k + (-1)))), (0, .ref y0), (1, .int (iI (fo))), (2, .int (iI (q))), (3, .int (iI (ma Gp n (q - 1)))), (4, .int (iI (ma Gp n q)))]) hx hb dX1_puts_41 hl (k := 5) rfl (by decide) rfl (fun ls hl => ?_)
        refine lv_goto (tgt := 19) hx hb dX1_puts_44 (by decide) ?_
        exact ih (k + (-1)) (_) _ _ ls (by omega) (by omega) (fun j h0 h1 h2 => by unfold uI; rw [if_neg (by omega)]; exact hFa j h0 (by omega) h2) (fun j h0 h1 => by unfold uI; rcases (show j = k ∨ k < j by omega) with z | z; (rw [if_pos z, z]); (rw [if_neg (by omega)]; exact hFb j z h1)) ⟨f, g, z, sp, rf, rc, hAf, hAg, hAz, hAsp, hArf, hArc, hP, hD.weaken (fun _ _ _ h => hmb _ h)⟩ hS (lv_sub hl [1, 2, 3, 4, 5, 0] rfl)
  exact hloop19 ((n : Int).toNat + 1) (n) (F1) _ _ ls (by omega) (by omega) (fun j h0 h1 h2 => hF1 j h0 h2) (fun j h0 h1 => absurd h1 (by omega)) ⟨f, g, z, sp, rf, rc, hAf, hAg, hAz, hAsp, hArf, hArc, hP, hD.weaken (fun _ _ _ h => hmb _ h)⟩ hS (lv_sub hl [3, 4, 5, 2, 1, 0] rfl)
set_option maxHeartbeats 4000000 in
set_option maxRecDepth 100000 in
theorem c_M_comes (l : Launch) (D : va_G) (cI cZ : ClassId) (base st : Nat) (Z : Nat → Nat) (y0 y1 y2 y3 y6 y7 y8 : Nat) {n came MV th : Int} {F G ZN SP RF RC : Int → Int} (hn : 0 ≤ n ∧ n < 60) (hF : ∀ k : Int, 0 ≤ k → k < n → 0 ≤ F k ∧ F k < 200) (hFi : ∀ i j : Int, 0 ≤ i → i < n → 0 ≤ j → j < n → F i = F j → i = j) (Gp : Int → Int) (hGM : ∀ k : Int, 0 ≤ k → k < n → G (F k) = Gp k) (hG : ∀ k : Int, 0 ≤ k → k < n → 0 ≤ Gp k ∧ Gp k ≤ 255) (hs : SD Gp n) (hcm : 0 ≤ came ∧ came < 200) (hfo : ∀ k : Int, 0 ≤ k → k < n → F k < came) (q : Int) (hq : 0 ≤ q ∧ q ≤ n) (G2 : Int → Int) (dm : Int) (SP2 : Int → Int) (hPT : PT Gp n q SP G2 dm SP2) : mu_M l yX1_comes wsX1_comes ({ frames := 3, cells := 0, slots := 0, locals := 75 } : Room) [.ref y0, .int (iI (q))] (MP D cI cZ base st Z y0 y1 y2 y3 y6 y7 y8 n came MV th F G ZN SP RF RC) (some (.int (iI came))) (fun H => ∃ G3 : Int → Int, (∀ k : Int, 0 ≤ k → k < n + 1 → G3 (insF F q came k) = G2 k) ∧ MW D cI cZ base y0 y1 y2 y3 y6 y7 y8 (n + 1) (came + 1) (MV + dm) (th) (insF F q came) (G3) (uI ZN came 1) (SP2) (RF) (RC) H) (mM y0 y1 y2 y3 y6 y7 y8) := by
  refine mu_of (cc := cX1_comes) (maxL := 3) (ret := (some .int)) (own := RX1) (by decide) rfl rfl (Nat.le_of_ble_eq_true rfl) ?_
  intro p e s m below meth c ls B hCP hl hS
  obtain ⟨hx, hb, hml, hr, hts, hown, hlocks⟩ := B
  obtain ⟨⟨hK, hZL, ⟨hstb, xs, hXL, hAL⟩, hTW⟩, f, g, z, sp, rf, rc, hAf, hAg, hAz, hAsp, hArf, hArc, hP, hDb⟩ := id hCP
  have hD := MW_mD hDb
  have hmb := mM_b hDb
  have hbl := MW_lt hCP.2
  have hSW0 := hCP.1
  have hl : lv_has ls 3 [(0, .ref y0), (1, .int (iI (q)))] := hl
  have hin : ∀ w ∈ u_ws RX1 TX1 10, w ∈ wsX1_comes := by decide +kernel
  have q_isIn := hts (.fieldLink RX1 16 "ShelfMarksModel" "isIn" "[Z") (by decide +kernel)
  have q_came := hts (.fieldLink RX1 33 "ShelfMarksModel" "came" "I") (by decide +kernel)
  refine lv_aload_n hx hb dX1_comes_0 rfl (lv_at hl 0 rfl) ?_
  refine va_get (D := D) (ci := 1) (v := .int (iI (came))) (C := RX1) (T := TX1) (N := 10) hx hb hts hin hown hK hP 0 rfl rfl 4 (by decide) q_came (fun _ h9 => h9) rfl dX1_comes_1 ?_
  refine lv_istore_n (lv' := [(2, .int (iI (came))), (0, .ref y0), (1, .int (iI (q)))]) hx hb dX1_comes_4 rfl hl (by decide) rfl (fun ls hl => ?_)
  refine lv_aload_n hx hb dX1_comes_5 rfl (lv_at hl 1 rfl) ?_
  refine va_get (D := D) (ci := 1) (v := .ref y3) (C := RX1) (T := TX1) (N := 10) hx hb hts hin hown hK hP 0 rfl rfl 3 (by decide) q_isIn (fun _ h9 => h9) rfl dX1_comes_6 ?_
  refine lv_iload_n hx hb dX1_comes_9 rfl (lv_at hl 0 rfl) ?_
  refine pv_iconst hx hb dX1_comes_10 ?_
  refine pv_zast (i := came) (v := 1) hx hb hK hP hD hS 3 1 rfl rfl (by omega) (by decide) (by omega) dX1_comes_11 (fun H locs hP hD hS => ?_)
  have hP : va_P D vwCl (W1 cI cZ y0 y1 y2 y3 y6 y7 y8 (n) (came) (MV) (th) f g (upd z (came).toNat (iI (1))) sp rf rc) H := hP
  have hD : va_D (mM y0 y1 y2 y3 y6 y7 y8) (W1 cI cZ y0 y1 y2 y3 y6 y7 y8 (n) (came) (MV) (th) f g (upd z (came).toNat (iI (1))) sp rf rc) := hD
  have hAz := AR_up (k := came) (v := 1) hAz (by omega)
  generalize upd z (came).toNat (iI (1)) = z at hP hD hAz
  refine lv_aload_n hx hb dX1_comes_12 rfl (lv_at hl 1 rfl) ?_
  refine lv_dup hx hb dX1_comes_13 rfl ?_
  refine va_get (D := D) (ci := 1) (v := .int (iI (came))) (C := RX1) (T := TX1) (N := 10) hx hb hts hin hown hK hP 0 rfl rfl 4 (by decide) q_came (fun _ h9 => h9) rfl dX1_comes_14 ?_
  refine pv_iconst hx hb dX1_comes_17 ?_
  refine pv_iadd hx hb dX1_comes_18 ?_
  refine va_put (D := D) (ci := 1) (v := .int (iI ((came) + (1)))) (ty := .int) (C := RX1) (T := TX1) (N := 10) hx hb hts hin tyX1 tyX1_ok nmX1 hown hK hP hD hS 0 rfl rfl 4 (by decide) q_came (fun _ h9 => h9) rfl (by decide +kernel) rfl rfl (Nat.le_of_ble_eq_true rfl) dX1_comes_19 (fun H locs hP hD hS => ?_)
  have hP : va_P D vwCl (W1 cI cZ y0 y1 y2 y3 y6 y7 y8 (n) ((came) + (1)) (MV) (th) f g z sp rf rc) H := hP
  have hD : va_D (mM y0 y1 y2 y3 y6 y7 y8) (W1 cI cZ y0 y1 y2 y3 y6 y7 y8 (n) ((came) + (1)) (MV) (th) f g z sp rf rc) := hD
  refine lv_aload_n hx hb dX1_comes_22 rfl (lv_at hl 1 rfl) ?_
  refine lv_iload_n hx hb dX1_comes_23 rfl (lv_at hl 0 rfl) ?_
  refine lv_iload_n hx hb dX1_comes_24 rfl (lv_at hl 2 rfl) ?_
  have hCP : MP D cI cZ base st Z y0 y1 y2 y3 y6 y7 y8 (n) ((came) + (1)) (MV) (th) (F) (G) (uI (ZN) (came) (1)) (SP) (RF) (RC) s H := ⟨hSW0.behind hbl hmb hS, ⟨f, g, z, sp, rf, rc, hAf, hAg, hAz, hAsp, hArf, hArc, hP, hD.weaken (fun _ _ _ h => hmb _ h)⟩⟩
  refine mu_callV (As := [.int (iI (came)), .int (iI (q))]) (rest := []) MP_mv ⟨hx, hb, hml, hown, hts⟩ (c_M_puts l D cI cZ base st Z y0 y1 y2 y3 y6 y7 y8 hn hF hFi Gp hGM hG hs came hcm (fun k h0 h1 => by have := hfo k h0 h1; omega) q hq G2 dm SP2 hPT) (cwV 2 hts gX1_comes_X1_puts rfl rfl rfl (by decide +kernel) ⟨(Nat.le_of_ble_eq_true rfl), (Nat.le_of_ble_eq_true rfl)⟩) hCP (MP_rc hCP) rfl rfl hl.1 (Nat.le_of_ble_eq_true rfl) dX1_comes_25 ⟨Nat.zero_le _, Nat.zero_le _⟩ hS (fun _ h => h) (fun H locs hC9 hz9 hk9 hS => ?_)
  obtain ⟨G9, hG9, hC9⟩ := hC9
  have hC9 : MW D cI cZ base y0 y1 y2 y3 y6 y7 y8 (n + 1) ((came) + (1)) (MV + dm) (th) (insF F q came) (G9) (uI (ZN) (came) (1)) (SP2) (RF) (RC) H := hC9
  obtain ⟨f, g, z, sp, rf, rc, hAf, hAg, hAz, hAsp, hArf, hArc, hP, hDb⟩ := hC9
  have hD := MW_mD hDb
  refine lv_iload_n hx hb dX1_comes_28 rfl (lv_at hl 0 rfl) ?_
  exact mu_iret hx hb hr hlocks hS dX1_comes_29 (by rfl) ⟨G9, hG9, ⟨f, g, z, sp, rf, rc, hAf, hAg, hAz, hAsp, hArf, hArc, hP, hD.weaken (fun _ _ _ h => hmb _ h)⟩⟩
set_option maxHeartbeats 4000000 in
set_option maxRecDepth 100000 in
theorem c_M_lifts (l : Launch) (D : va_G) (cI cZ : ClassId) (base st : Nat) (Z : Nat → Nat) (y0 y1 y2 y3 y6 y7 y8 : Nat) {n came MV th : Int} {F G ZN SP RF RC : Int → Int} (hn : 0 ≤ n ∧ n ≤ 60) (hF : ∀ k : Int, 0 ≤ k → k < n → 0 ≤ F k ∧ F k < 200) (x : Int) (hxr : (-2147483648 ≤ x ∧ x ≤ 2147483647)) (rp : Int) (hrp : PL F n x rp) (h0 : 0 ≤ rp) : mu_M l yX1_lifts wsX1_lifts ({ frames := 1, cells := 0, slots := 0, locals := 22 } : Room) [.ref y0, .int (iI (x))] (MP D cI cZ base st Z y0 y1 y2 y3 y6 y7 y8 n came MV th F G ZN SP RF RC) none (fun H => MW D cI cZ base y0 y1 y2 y3 y6 y7 y8 (n - 1) (came) (MV) (th) (remF F rp) (G) (ZN) (SP) (RF) (RC) H) (mM y0 y1 y2 y3 y6 y7 y8) := by
  refine mu_of (cc := cX1_lifts) (maxL := 3) (ret := none) (own := RX1) (by decide) rfl rfl (Nat.le_of_ble_eq_true rfl) ?_
  intro p e s m below meth c ls B hCP hl hS
  obtain ⟨hx, hb, hml, hr, hts, hown, hlocks⟩ := B
  obtain ⟨⟨hK, hZL, ⟨hstb, xs, hXL, hAL⟩, hTW⟩, f, g, z, sp, rf, rc, hAf, hAg, hAz, hAsp, hArf, hArc, hP, hDb⟩ := id hCP
  have hD := MW_mD hDb
  have hmb := mM_b hDb
  have hbl := MW_lt hCP.2
  have hSW0 := hCP.1
  have hl : lv_has ls 3 [(0, .ref y0), (1, .int (iI (x)))] := hl
  have hin : ∀ w ∈ u_ws RX1 TX1 10, w ∈ wsX1_lifts := by decide +kernel
  have q_order := hts (.fieldLink RX1 7 "ShelfMarksModel" "order" "[I") (by decide +kernel)
  have q_size := hts (.fieldLink RX1 36 "ShelfMarksModel" "size" "I") (by decide +kernel)
  refine lv_aload_n hx hb dX1_lifts_0 rfl (lv_at hl 0 rfl) ?_
  refine lv_iload_n hx hb dX1_lifts_1 rfl (lv_at hl 1 rfl) ?_
  have hpr := PL_rg hn.1 hrp
  have hCP : MP D cI cZ base st Z y0 y1 y2 y3 y6 y7 y8 (n) (came) (MV) (th) (F) (G) (ZN) (SP) (RF) (RC) s s.heap := ⟨hSW0.behind hbl hmb hS, ⟨f, g, z, sp, rf, rc, hAf, hAg, hAz, hAsp, hArf, hArc, hP, hD.weaken (fun _ _ _ h => hmb _ h)⟩⟩
  refine pu_callV (v := rp) (As := [.int (iI (x))]) (rest := []) MP_mv ⟨hx, hb, hml, hown, hts⟩ (c_M_place l D cI cZ base st Z y0 y1 y2 y3 y6 y7 y8 hn hF x hxr rp hrp h0) (cwV 1 hts gX1_lifts_X1_place rfl rfl rfl (by decide +kernel) ⟨(Nat.le_of_ble_eq_true rfl), (Nat.le_of_ble_eq_true rfl)⟩) hCP (MP_rc hCP) rfl rfl hl.1 (Nat.le_of_ble_eq_true rfl) dX1_lifts_2 ⟨Nat.zero_le _, Nat.zero_le _⟩ ?_
  refine lv_istore_n (lv' := [(2, .int (iI (rp))), (0, .ref y0), (1, .int (iI (x)))]) hx hb dX1_lifts_5 rfl hl (by decide) rfl (fun ls hl => ?_)
  have hloop6 : ∀ (fuel : Nat) (k : Int) (F2 : Int → Int) (H : Heap) (locs : List Loc) (ls : Array Slot), (n - k) < fuel → (rp ≤ k ∧ k < n) → (∀ j : Int, 0 ≤ j → j < k → F2 j = remF F rp j) → (∀ j : Int, k ≤ j → j < n → F2 j = F j) → MW D cI cZ base y0 y1 y2 y3 y6 y7 y8 (n) (came) (MV) (th) (F2) (G) (ZN) (SP) (RF) (RC) H → va_S (mM y0 y1 y2 y3 y6 y7 y8) s.heap H locs → lv_has ls 3 [(0, .ref y0), (1, .int (iI (x))), (2, .int (iI (k)))] → W p l e ({ frames := 1, cells := 0, slots := 0, locals := 22 } : Room) s m ([.ref y0, .int (iI (x))] : List Value).toArray below meth c H locs 0 0 (MQ below (mu_Q none (fun H => MW D cI cZ base y0 y1 y2 y3 y6 y7 y8 (n - 1) (came) (MV) (th) (remF F rp) (G) (ZN) (SP) (RF) (RC) H) (mM y0 y1 y2 y3 y6 y7 y8)) ([.ref y0, .int (iI (x))] : List Value).toArray s 0 0 (mM y0 y1 y2 y3 y6 y7 y8)) (F0 m 6 ls []) := by
    intro fuel
    induction fuel with
    | zero => intro k F2 H locs ls hfu hk hFa hFb hC9 hS hl; exfalso; omega
    | succ fuel ih =>
      intro k F2 H locs ls hfu hk hFa hFb hC9 hS hl
      obtain ⟨f, g, z, sp, rf, rc, hAf, hAg, hAz, hAsp, hArf, hArc, hP, hDb⟩ := hC9
      have hD := MW_mD hDb
      refine lv_iload_n hx hb dX1_lifts_6 rfl (lv_at hl 2 rfl) ?_
      refine lv_aload_n hx hb dX1_lifts_7 rfl (lv_at hl 0 rfl) ?_
      refine va_get (D := D) (ci := 1) (v := .int (iI (n))) (C := RX1) (T := TX1) (N := 10) hx hb hts hin hown hK hP 0 rfl rfl 1 (by decide) q_size (fun _ h9 => h9) rfl dX1_lifts_8 ?_
      refine pv_iconst hx hb dX1_lifts_11 ?_
      refine pv_isub hx hb dX1_lifts_12 ?_
      refine pv_icmp_ge (tgt := 36) hx hb dX1_lifts_13 (by decide) (by omega) (fun c_13 => ?_) (fun c_13 => ?_)
      · -- 13t
        refine lv_aload_n hx hb dX1_lifts_36 rfl (lv_at hl 0 rfl) ?_
        refine lv_dup hx hb dX1_lifts_37 rfl ?_
        refine va_get (D := D) (ci := 1) (v := .int (iI (n))) (C := RX1) (T := TX1) (N := 10) hx hb hts hin hown hK hP 0 rfl rfl 1 (by decide) q_size (fun _ h9 => h9) rfl dX1_lifts_38 ?_
        refine pv_iconst hx hb dX1_lifts_41 ?_
        refine pv_isub hx hb dX1_lifts_42 ?_
        refine va_put (D := D) (ci := 1) (v := .int (iI ((n) - (1)))) (ty := .int) (C := RX1) (T := TX1) (N := 10) hx hb hts hin tyX1 tyX1_ok nmX1 hown hK hP hD hS 0 rfl rfl 1 (by decide) q_size (fun _ h9 => h9) rfl (by decide +kernel) rfl rfl (Nat.le_of_ble_eq_true rfl) dX1_lifts_43 (fun H locs hP hD hS => ?_)
        have hP : va_P D vwCl (W1 cI cZ y0 y1 y2 y3 y6 y7 y8 ((n) - (1)) (came) (MV) (th) f g z sp rf rc) H := hP
        have hD : va_D (mM y0 y1 y2 y3 y6 y7 y8) (W1 cI cZ y0 y1 y2 y3 y6 y7 y8 ((n) - (1)) (came) (MV) (th) f g z sp rf rc) := hD
        exact mu_vret hx hb hr hlocks hS dX1_lifts_46 ⟨f, g, z, sp, rf, rc, AR_to hAf (by omega) (fun j h0 h1 => hFa j h0 (by omega)), hAg, hAz, hAsp, hArf, hArc, hP, hD.weaken (fun _ _ _ h => hmb _ h)⟩
      · -- 13f
        refine lv_aload_n hx hb dX1_lifts_16 rfl (lv_at hl 0 rfl) ?_
        refine va_get (D := D) (ci := 1) (v := .ref y1) (C := RX1) (T := TX1) (N := 10) hx hb hts hin hown hK hP 0 rfl rfl 0 (by decide) q_order (fun _ h9 => h9) rfl dX1_lifts_17 ?_
        refine lv_iload_n hx hb dX1_lifts_20 rfl (lv_at hl 2 rfl) ?_
        refine lv_aload_n hx hb dX1_lifts_21 rfl (lv_at hl 0 rfl) ?_
        refine va_get (D := D) (ci := 1) (v := .ref y1) (C := RX1) (T := TX1) (N := 10) hx hb hts hin hown hK hP 0 rfl rfl 0 (by decide) q_order (fun _ h9 => h9) rfl dX1_lifts_22 ?_
        refine lv_iload_n hx hb dX1_lifts_25 rfl (lv_at hl 2 rfl) ?_
        refine pv_iconst hx hb dX1_lifts_26 ?_
        refine pv_iadd hx hb dX1_lifts_27 ?_
        refine pv_iald (i := (k) + (1)) (v := F (k + 1)) hx hb hK hP 1 0 rfl rfl (by omega) (by decide) ((hAf _ (by omega) (by omega)).trans (congrArg iI (hFb (k + 1) (by omega) (by omega)))) dX1_lifts_28 ?_
        refine pv_iast (i := k) (v := F (k + 1)) hx hb hK hP hD hS 1 0 rfl rfl (by omega) (by decide) dX1_lifts_29 (fun H locs hP hD hS => ?_)
        have hP : va_P D vwCl (W1 cI cZ y0 y1 y2 y3 y6 y7 y8 (n) (came) (MV) (th) (upd f (k).toNat (iI (F (k + 1)))) g z sp rf rc) H := hP
        have hD : va_D (mM y0 y1 y2 y3 y6 y7 y8) (W1 cI cZ y0 y1 y2 y3 y6 y7 y8 (n) (came) (MV) (th) (upd f (k).toNat (iI (F (k + 1)))) g z sp rf rc) := hD
        have hAf := AR_up (k := k) (v := F (k + 1)) hAf (by omega)
        generalize upd f (k).toNat (iI (F (k + 1))) = f at hP hD hAf
        refine pv_iinc (lv' := [(2, .int (iI (k + 1))), (0, .ref y0), (1, .int (iI (x)))]) hx hb dX1_lifts_30 hl (k := 2) rfl (by decide) rfl (fun ls hl => ?_)
        refine lv_goto (tgt := 6) hx hb dX1_lifts_33 (by decide) ?_
        exact ih (k + 1) (_) _ _ ls (by omega) (by omega) (fun j h0 h1 => by unfold uI; rcases (show j = k ∨ j < k by omega) with z | z; (rw [if_pos z, z]; unfold remF; rw [if_neg (by omega)]); (rw [if_neg (by omega)]; exact hFa j h0 z)) (fun j h0 h1 => by unfold uI; rw [if_neg (by omega)]; exact hFb j (by omega) h1) ⟨f, g, z, sp, rf, rc, hAf, hAg, hAz, hAsp, hArf, hArc, hP, hD.weaken (fun _ _ _ h => hmb _ h)⟩ hS (lv_sub hl [1, 2, 0] rfl)
  exact hloop6 ((n : Int).toNat + 1) (rp) (F) _ _ ls (by omega) (by omega) (fun j h0 h1 => by unfold remF; rw [if_pos h1]) (fun j h0 h1 => rfl) ⟨f, g, z, sp, rf, rc, hAf, hAg, hAz, hAsp, hArf, hArc, hP, hD.weaken (fun _ _ _ h => hmb _ h)⟩ hS (lv_sub hl [1, 2, 0] rfl)
