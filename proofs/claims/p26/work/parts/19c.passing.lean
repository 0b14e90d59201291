theorem PL_kx {n came x : Int} {F G RF : Int → Int} (h : INV n came F G RF) {k : Int} (hk : 0 ≤ k ∧ k < n) (e : F k = x) : PL F n x k := e ▸ PL_k h hk
def LPS (D : va_G) (cI : ClassId) (base st : Nat) (Z : Nat → Nat) (x0 x1 x2 x5 x6 x7 z0 z1 z2 z5 z6 z7 pp : Nat) (k1 k2 : Int) (sz : Nat) : State → Heap → Prop := fun U H => LPW D cI base st Z x0 x1 x2 x5 x6 x7 z0 z1 z2 z5 z6 z7 pp k1 k2 U H ∧ H.size = sz
theorem LPS_mv {D : va_G} {cI : ClassId} {base st : Nat} {Z : Nat → Nat} {x0 x1 x2 x5 x6 x7 z0 z1 z2 z5 z6 z7 pp : Nat} {k1 k2 : Int} {sz : Nat} : mvb (LPS D cI base st Z x0 x1 x2 x5 x6 x7 z0 z1 z2 z5 z6 z7 pp k1 k2 sz) := fun _ _ _ hW h => ⟨LPW_mv _ _ _ hW h.1, h.2⟩
theorem RW_mono {D : va_G} {cI : ClassId} {base x0 x1 x2 x5 x6 x7 z0 z1 z2 z5 z6 z7 pp : Nat} {k1 k2 k3 k4 : Int} {H : Heap} (h : RW D cI base x0 x1 x2 x5 x6 x7 z0 z1 z2 z5 z6 z7 pp k1 k2 H) (h1 : k1 ≤ k3) (h2 : k2 ≤ k4) : RW D cI base x0 x1 x2 x5 x6 x7 z0 z1 z2 z5 z6 z7 pp k3 k4 H := by
  obtain ⟨n, c1, M1, F, G, SP, RF, RC, c2, M2, F2, G2, SP2, RF2, RC2, PN, hC, hC2, hO, hI, hJ, hR, hn1, hk1, hk2⟩ := h
  exact ⟨n, c1, M1, F, G, SP, RF, RC, c2, M2, F2, G2, SP2, RF2, RC2, PN, hC, hC2, hO, hI, hJ, hR, hn1, Int.le_trans hk1 h1, Int.le_trans hk2 h2⟩
set_option maxHeartbeats 4000000 in
set_option maxRecDepth 100000 in
theorem p_assing (l : Launch) (D : va_G) (cI : ClassId) (base st : Nat) (Z : Nat → Nat) (x0 x1 x2 x5 x6 x7 z0 z1 z2 z5 z6 z7 pp : Nat) (k1 k2 : Int) (sz : Nat) (hk200 : k2 ≤ 190) (z : Int) (hz : 0 ≤ z ∧ z ≤ 2147483647) : nw_M l yL_passing wsL_passing ({ frames := 8, cells := 1, slots := 2, locals := 186 } : Room) [.ref z0, .int (iI (z))] (LPS D cI base st Z x0 x1 x2 x5 x6 x7 z0 z1 z2 z5 z6 z7 pp k1 k2 sz) (some (.int (iI 1))) (fun H => RW D cI base x0 x1 x2 x5 x6 x7 z0 z1 z2 z5 z6 z7 pp k1 (k2 + 2) H) (fun q => mC z0 z1 z2 z5 z6 z7 q ∨ sz ≤ q) 1 2 := by
  refine nw_of (cc := cL_passing) (maxL := 7) (ret := (some .boolean)) (own := RL) (by decide) rfl rfl (Nat.le_of_ble_eq_true rfl) ?_
  intro p e s m below meth c ls B hP0 hl hS
  obtain ⟨hx, hb, hml, hr, hts, hown, hlocks⟩ := B
  have hl : lv_has ls 7 [(0, .ref z0), (1, .int (iI (z)))] := hl
  obtain ⟨⟨hSW0, ⟨n, c1, M1, F, G, SP, RF, RC, c2, M2, F2, G2, SP2, RF2, RC2, PN, hC, hC2, hO, hI, hJ, hR, hn1, hk1, hk2⟩, hDJ, hnc1, hnc2⟩, hsz⟩ := hP0
  subst hsz
  have hSW := hSW0
  have hK := hSW.1
  obtain ⟨hn, hcm2, hF2, hfc2, hFi2, hG2, hs2, hRI2⟩ := id hJ
  have hbl : base ≤ s.heap.size := CW_lt hC
  have hAb : ∀ q, (fun q : Nat => mC z0 z1 z2 z5 z6 z7 q ∨ s.heap.size ≤ q) q → base ≤ q := fun q h => by rcases h with h | h; exact CW_b hC2 q h; exact Nat.le_trans hbl h
  refine lv_aload_n hx hb dL_passing_0 rfl (lv_at hl 0 rfl) ?_
  refine pu_callV (v := n) (As := []) (rest := []) CP_mv ⟨hx, hb, hml, hown, hts⟩ (c_size l D cI base st Z z0 z1 z2 z5 z6 z7 hn) (cwV 0 hts gL_passing_X0_size rfl rfl rfl (by decide +kernel) ⟨(Nat.le_of_ble_eq_true rfl), (Nat.le_of_ble_eq_true rfl)⟩) ⟨hSW, hC2⟩ (CP_rc ⟨hSW, hC2⟩) rfl rfl hl.1 (Nat.le_of_ble_eq_true rfl) dL_passing_1 ⟨Nat.zero_le _, Nat.zero_le _⟩ ?_
  refine lv_istore_n (lv' := [(2, .int (iI (n))), (0, .ref z0), (1, .int (iI (z)))]) hx hb dL_passing_4 rfl hl (by decide) rfl (fun ls hl => ?_)
  refine pv_iconst hx hb dL_passing_5 ?_
  refine lv_iload_n hx hb dL_passing_6 rfl (lv_at hl 2 rfl) ?_
  refine pv_iconst hx hb dL_passing_7 ?_
  refine pv_irem hx hb dL_passing_8 (by omega) (by omega) ?_
  by_cases hz2 : z % 2 = 0
  · skip
    rw [show iI (z % 2) = iI (0) from congrArg iI (by omega)]
    refine pv_iadd hx hb dL_passing_9 ?_
    rw [show iI (1 + 0) = iI (1) from congrArg iI (by decide)]
    refine lv_istore_n (lv' := [(3, .int (iI (1))), (2, .int (iI (n))), (0, .ref z0), (1, .int (iI (z)))]) hx hb dL_passing_10 rfl hl (by decide) rfl (fun ls hl => ?_)
    refine pv_iconst hx hb dL_passing_11 ?_
    refine pv_newa (A := fun q : Nat => s.heap.size ≤ q) (H0 := s.heap) (k9 := 2) (N2 := 2) (atype := .int) (ty := .int) (a0 := (2, .inl (fun _ => iI 0))) hx hb (hts (.arrayClass .int) (by decide +kernel)) rfl hK 0 rfl (fun _ _ h => h) (show va_P D vwCl [] s.heap from fun k q h => by simp at h) ⟨fun i j p q h => by simp at h, fun k q h => by simp at h⟩ va_S.rf (fun q h => h) (fun cA => by rw [iI_0]; rfl) (by omega) rfl (Nat.le_of_ble_eq_true rfl) (Nat.le_of_ble_eq_true rfl) (Nat.le_of_ble_eq_true rfl) dL_passing_12 (fun g H hPg hDg hSg => ?_)
    have hgb : s.heap.size ≤ g := hDg.2 0 _ rfl
    have hGP : GP D cI g 2 (fun _ => iI 0) H := hPg
    have hgx : ¬ mC x0 x1 x2 x5 x6 x7 g := fun h => absurd (CW_mlt hC g h) (Nat.not_lt.mpr hgb)
    have hgz : ¬ mC z0 z1 z2 z5 z6 z7 g := fun h => absurd (CW_mlt hC2 g h) (Nat.not_lt.mpr hgb)
    have hgp : ¬ g = pp := fun h => absurd (h ▸ OP_lt hO) (Nat.not_lt.mpr hgb)
    have hC := CW_fr hC (fun q h1 h2 => hSg.2.1 q h1 h2) (fun q h => Nat.not_le.mpr (CW_mlt hC q h))
    have hC2 := CW_fr hC2 (fun q h1 h2 => hSg.2.1 q h1 h2) (fun q h => Nat.not_le.mpr (CW_mlt hC2 q h))
    have hO := OP_fr hO (fun q h1 h2 => hSg.2.1 q h1 h2) (Nat.not_le.mpr (OP_lt hO))
    have hS : va_S (fun q : Nat => mC z0 z1 z2 z5 z6 z7 q ∨ s.heap.size ≤ q) s.heap H [] := va_S_wk hSg (fun q h => Or.inr h)
    have hSW := hSW0.behind hbl hAb hS
    refine lv_astore (lv' := [(4, .ref g), (3, .int (iI (1))), (2, .int (iI (n))), (0, .ref z0), (1, .int (iI (z)))]) hx hb dL_passing_14 hl (by decide) rfl (fun ls hl => ?_)
    refine pv_iconst hx hb dL_passing_16 ?_
    refine lv_istore (lv' := [(5, .int (iI (0))), (4, .ref g), (3, .int (iI (1))), (2, .int (iI (n))), (0, .ref z0), (1, .int (iI (z)))]) hx hb dL_passing_17 hl (by decide) rfl (fun ls hl => ?_)
    refine lv_iload hx hb dL_passing_19 (lv_at hl 0 rfl) ?_
    refine lv_iload_n hx hb dL_passing_21 rfl (lv_at hl 2 rfl) ?_
    refine pv_icmp_ge (tgt := 73) hx hb dL_passing_22 (by decide) (by omega) (fun c9 => False.elim (by omega)) (fun _ => ?_)
    refine lv_iload_n hx hb dL_passing_25 rfl (lv_at hl 3 rfl) ?_
    refine lv_iload_n hx hb dL_passing_26 rfl (lv_at hl 2 rfl) ?_
    refine pv_iadd hx hb dL_passing_27 ?_
    refine pv_bipush hx hb dL_passing_28 (by decide +kernel) ?_
    by_cases hfit : n + 1 ≤ 60
    · by_cases hn0 : n = 0
      · skip
        refine pv_icmp_gt (tgt := 73) hx hb dL_passing_30 (by decide) (by omega) (fun c9 => False.elim (by omega)) (fun _ => ?_)
        obtain ⟨G8, dm0, SP8, hPT0⟩ := PT_ex (G2) (n) (0) (SP2)
        have hJ1 := INV_put hJ (by omega) (by omega) (show 0 ≤ 0 ∧ 0 ≤ n by omega) hPT0
        refine lv_aload hx hb dL_passing_33 (lv_at hl 1 rfl) ?_
        refine lv_iload hx hb dL_passing_35 (lv_at hl 0 rfl) ?_
        refine lv_iload_n hx hb dL_passing_37 rfl (lv_at hl 3 rfl) ?_
        refine pv_if_ne (tgt := 51) hx hb dL_passing_38 (by decide) (by omega) (fun c9 => False.elim (by omega)) (fun _ => ?_)
        refine lv_aload_n hx hb dL_passing_41 rfl (lv_at hl 4 rfl) ?_
        refine pv_iconst hx hb dL_passing_42 ?_
        refine pv_iconst hx hb dL_passing_43 ?_
        refine pv_iconst hx hb dL_passing_44 ?_
        refine wr_call (As := [.ref z0, .int (iI (0)), .int (iI (0)), .int (iI (0))]) (rest := [.int (iI (0)), .ref g]) CP_mv ⟨hx, hb, hml, hown, hts⟩ (d_putFirst l D cI base st Z z0 z1 z2 z5 z6 z7 (by omega) hJ.2.2.2.2.2.1 hJ.2.2.2.2.2.2.1 (by omega) G8 dm0 SP8 hPT0 0 0) (vx_cwSW 4 hts gL_passing_L_done rfl rfl rfl (by decide +kernel) ⟨(Nat.le_of_ble_eq_true rfl), (Nat.le_of_ble_eq_true rfl)⟩) ⟨hSW, hC2⟩ rfl rfl hl.1 (Nat.le_of_ble_eq_true rfl) dL_passing_45 ⟨(Nat.le_of_ble_eq_true rfl), (Nat.le_of_ble_eq_true rfl)⟩ hS (fun q h => Or.inl h) (fun H locs hP2 hz hk hS => ?_)
        have hC2 : CW D cI base z0 z1 z2 z5 z6 z7 (n + 1) (c2 + 1) (M2 + dm0) (insF (F2) (0) (c2)) G8 SP8 RF2 RC2 H := hP2
        have hC := CW_fr hC hk (fun q h y => hDJ.1 q h y)
        have hO := OP_fr hO hk hDJ.2.2.1
        have hGP := GP_fr hGP hk hgz
        have hSW := hSW0.behind hbl hAb hS
        refine lv_goto (tgt := 66) hx hb dL_passing_48 (by decide) ?_
        refine pv_ast1 (i := 0) (v := c2) hx hb hK hGP hS (Or.inr hgb) (by omega) (by decide) dL_passing_66 (fun H locs hGP hz hk hS => ?_)
        have hC := CW_fr (A := fun q => q = g) hC hk (fun q h y => hgx (y ▸ h))
        have hC2 := CW_fr (A := fun q => q = g) hC2 hk (fun q h y => hgz (y ▸ h))
        have hO := OP_fr (A := fun q => q = g) hO hk (fun y => hgp y.symm)
        have hSW := hSW0.behind hbl hAb hS
        refine pv_iinc (lv' := [(5, .int (iI (1))), (4, .ref g), (3, .int (iI (1))), (2, .int (iI (n))), (0, .ref z0), (1, .int (iI (z)))]) hx hb dL_passing_67 hl (k := 0) rfl (by decide) rfl (fun ls hl => ?_)
        refine lv_goto (tgt := 19) hx hb dL_passing_70 (by decide) ?_
        refine lv_iload hx hb dL_passing_19 (lv_at hl 0 rfl) ?_
        refine lv_iload_n hx hb dL_passing_21 rfl (lv_at hl 2 rfl) ?_
        refine pv_icmp_ge (tgt := 73) hx hb dL_passing_22 (by decide) (by omega) (fun _ => ?_) (fun c9 => False.elim (by omega))
        refine pv_iconst hx hb dL_passing_73 ?_
        refine lv_istore (lv' := [(5, .int (iI (1))), (4, .ref g), (3, .int (iI (1))), (2, .int (iI (n))), (0, .ref z0), (1, .int (iI (z)))]) hx hb dL_passing_74 hl (by decide) rfl (fun ls hl => ?_)
        refine pv_iconst hx hb dL_passing_76 ?_
        refine lv_istore (lv' := [(6, .int (iI (0))), (5, .int (iI (1))), (4, .ref g), (3, .int (iI (1))), (2, .int (iI (n))), (0, .ref z0), (1, .int (iI (z)))]) hx hb dL_passing_77 hl (by decide) rfl (fun ls hl => ?_)
        refine lv_iload hx hb dL_passing_79 (lv_at hl 0 rfl) ?_
        refine lv_iload_n hx hb dL_passing_81 rfl (lv_at hl 3 rfl) ?_
        refine pv_icmp_ge (tgt := 141) hx hb dL_passing_82 (by decide) (by omega) (fun c9 => False.elim (by omega)) (fun _ => ?_)
        refine lv_iload_n hx hb dL_passing_85 rfl (lv_at hl 4 rfl) ?_
        refine lv_iload_n hx hb dL_passing_86 rfl (lv_at hl 3 rfl) ?_
        refine pv_iadd hx hb dL_passing_87 ?_
        refine pv_bipush hx hb dL_passing_88 (by decide +kernel) ?_
        refine pv_icmp_gt (tgt := 141) hx hb dL_passing_90 (by decide) (by omega) (fun c9 => False.elim (by omega)) (fun _ => ?_)
        refine lv_iload hx hb dL_passing_93 (lv_at hl 1 rfl) ?_
        refine pv_if_eq (tgt := 132) hx hb dL_passing_95 (by decide) (by omega) (fun c9 => False.elim (by omega)) (fun _ => ?_)
        refine lv_aload hx hb dL_passing_98 (lv_at hl 2 rfl) ?_
        refine lv_iload hx hb dL_passing_100 (lv_at hl 0 rfl) ?_
        refine pv_ald1 (i := 0) (v := c2) hx hb hK hGP (by omega) (by decide) (by simp [upd]) dL_passing_102 ?_
        refine pv_if_lt (tgt := 132) hx hb dL_passing_103 (by decide) (by omega) (fun c9 => False.elim (by omega)) (fun _ => ?_)
        refine lv_aload_n hx hb dL_passing_106 rfl (lv_at hl 5 rfl) ?_
        refine pv_iconst hx hb dL_passing_107 ?_
        refine lv_aload hx hb dL_passing_108 (lv_at hl 2 rfl) ?_
        refine lv_iload hx hb dL_passing_110 (lv_at hl 0 rfl) ?_
        refine pv_ald1 (i := 0) (v := c2) hx hb hK hGP (by omega) (by decide) (by simp [upd]) dL_passing_112 ?_
        refine pv_iconst hx hb dL_passing_113 ?_
        refine wr_call (As := [.ref z0, .int (iI (2)), .int (iI (c2)), .int (iI (0))]) (rest := []) CP_mv ⟨hx, hb, hml, hown, hts⟩ (d_takeOut l D cI base st Z z0 z1 z2 z5 z6 z7 hJ1.1 hJ1.2.2.1 (INV_RF hJ1) (c2) (by omega) (0) (PL_kx hJ1 (by omega) (ins_at F2 (0) c2)) (by omega) 0) (vx_cwSW 4 hts gL_passing_L_done rfl rfl rfl (by decide +kernel) ⟨(Nat.le_of_ble_eq_true rfl), (Nat.le_of_ble_eq_true rfl)⟩) ⟨hSW, hC2⟩ rfl rfl hl.1 (Nat.le_of_ble_eq_true rfl) dL_passing_114 ⟨(Nat.le_of_ble_eq_true rfl), (Nat.le_of_ble_eq_true rfl)⟩ hS (fun q h => Or.inl h) (fun H locs hP2 hz hk hS => ?_)
        have hC2 : CW D cI base z0 z1 z2 z5 z6 z7 (n + 1 - 1) (c2 + 1) (M2 + dm0) (remF (insF (F2) (0) (c2)) (0)) (remF G8 (0)) SP8 (sendF RF2 (c2) (fa (insF (F2) (0) (c2)) (n + 1) (0 + 1))) RC2 H := hP2
        have hC := CW_fr hC hk (fun q h y => hDJ.1 q h y)
        have hO := OP_fr hO hk hDJ.2.2.1
        have hGP := GP_fr hGP hk hgz
        have hSW := hSW0.behind hbl hAb hS
        have hid0 := send_id (RF := RF2) (g := c2) (nx := fa (insF (F2) (0) (c2)) (n + 1) (0 + 1)) (fun k a b9 => RF_ne hJ ⟨a, b9⟩ (by omega))
        have hJ8 := INV_ext (INV_take hJ1 ⟨by omega, by omega, (ins_at F2 (0) c2)⟩) hid0
        have hC2 := CW_RF hC2 hid0
        rw [rem_ins, show n + 1 - 1 = n by omega] at hC2 hJ8
        refine lv_iload_n hx hb dL_passing_117 rfl (lv_at hl 4 rfl) ?_
        refine lv_iload_n hx hb dL_passing_118 rfl (lv_at hl 3 rfl) ?_
        refine pv_iadd hx hb dL_passing_119 ?_
        refine pv_iconst hx hb dL_passing_120 ?_
        refine pv_isub hx hb dL_passing_121 ?_
        refine lv_iload hx hb dL_passing_122 (lv_at hl 0 rfl) ?_
        refine pv_isub hx hb dL_passing_124 ?_
        refine pv_nesame (tgt := 132) hx hb dL_passing_125 (by decide) (by omega) ?_
        refine pv_iconst hx hb dL_passing_128 ?_
        refine lv_goto (tgt := 133) hx hb dL_passing_129 (by decide) ?_
        refine lv_istore (lv' := [(5, .int (iI (1))), (6, .int (iI (0))), (4, .ref g), (3, .int (iI (1))), (2, .int (iI (n))), (0, .ref z0), (1, .int (iI (z)))]) hx hb dL_passing_133 hl (by decide) rfl (fun ls hl => ?_)
        refine pv_iinc (lv' := [(6, .int (iI (1))), (5, .int (iI (1))), (4, .ref g), (3, .int (iI (1))), (2, .int (iI (n))), (0, .ref z0), (1, .int (iI (z)))]) hx hb dL_passing_135 hl (k := 1) rfl (by decide) rfl (fun ls hl => ?_)
        refine lv_goto (tgt := 79) hx hb dL_passing_138 (by decide) ?_
        refine lv_iload hx hb dL_passing_79 (lv_at hl 0 rfl) ?_
        refine lv_iload_n hx hb dL_passing_81 rfl (lv_at hl 3 rfl) ?_
        refine pv_icmp_ge (tgt := 141) hx hb dL_passing_82 (by decide) (by omega) (fun _ => ?_) (fun c9 => False.elim (by omega))
        refine lv_iload hx hb dL_passing_141 (lv_at hl 1 rfl) ?_
        refine pv_if_eq (tgt := 158) hx hb dL_passing_143 (by decide) (by omega) (fun c9 => False.elim (by omega)) (fun _ => ?_)
        refine lv_aload_n hx hb dL_passing_146 rfl (lv_at hl 5 rfl) ?_
        refine pu_callV (v := n) (As := []) (rest := []) CP_mv ⟨hx, hb, hml, hown, hts⟩ (c_size l D cI base st Z z0 z1 z2 z5 z6 z7 hn) (cwV 0 hts gL_passing_X0_size rfl rfl rfl (by decide +kernel) ⟨(Nat.le_of_ble_eq_true rfl), (Nat.le_of_ble_eq_true rfl)⟩) ⟨hSW, hC2⟩ (CP_rc ⟨hSW, hC2⟩) rfl rfl hl.1 (Nat.le_of_ble_eq_true rfl) dL_passing_147 ⟨(Nat.le_of_ble_eq_true rfl), (Nat.le_of_ble_eq_true rfl)⟩ ?_
        refine lv_iload_n hx hb dL_passing_150 rfl (lv_at hl 4 rfl) ?_
        refine pv_nesame (tgt := 158) hx hb dL_passing_151 (by decide) (rfl) ?_
        refine pv_iconst hx hb dL_passing_154 ?_
        refine lv_goto (tgt := 159) hx hb dL_passing_155 (by decide) ?_
        refine W.widen (k := 1) (n := 2) (by omega) (by omega) ?_
        exact nw_zret hx hb hr hlocks hS dL_passing_159 rfl (Or.inr rfl) ⟨_, _, _, _, _, _, _, _, _, _, _, _, _, _, _, _, hC, hC2, hO, hI, hJ8, hR, by omega, by omega, by omega⟩
      · obtain ⟨v, hv9⟩ : ∃ y, y = z / 4 % n := ⟨_, rfl⟩
        have hv : 0 ≤ v ∧ v < n := by rw [hv9]; exact ⟨Int.emod_nonneg _ hn0, Int.emod_lt_of_pos _ (by omega)⟩
        refine pv_icmp_gt (tgt := 73) hx hb dL_passing_30 (by decide) (by omega) (fun c9 => False.elim (by omega)) (fun _ => ?_)
        obtain ⟨G8, dm0, SP8, hPT0⟩ := PT_ex (G2) (n) (v + 1) (SP2)
        have hJ1 := INV_put hJ (by omega) (by omega) (show 0 ≤ v + 1 ∧ v + 1 ≤ n by omega) hPT0
        refine lv_aload hx hb dL_passing_33 (lv_at hl 1 rfl) ?_
        refine lv_iload hx hb dL_passing_35 (lv_at hl 0 rfl) ?_
        refine lv_iload_n hx hb dL_passing_37 rfl (lv_at hl 3 rfl) ?_
        refine pv_if_ne (tgt := 51) hx hb dL_passing_38 (by decide) (by omega) (fun _ => ?_) (fun c9 => False.elim (by omega))
        refine lv_aload_n hx hb dL_passing_51 rfl (lv_at hl 4 rfl) ?_
        refine pv_iconst hx hb dL_passing_52 ?_
        refine lv_aload_n hx hb dL_passing_53 rfl (lv_at hl 4 rfl) ?_
        refine lv_iload_n hx hb dL_passing_54 rfl (lv_at hl 5 rfl) ?_
        refine pv_iconst hx hb dL_passing_55 ?_
        refine pv_idiv hx hb dL_passing_56 (by omega) (by omega) ?_
        refine lv_iload_n hx hb dL_passing_57 rfl (lv_at hl 3 rfl) ?_
        refine pv_irem hx hb dL_passing_58 (by omega) (by omega) ?_
        rw [show iI ((z / 4) % n) = iI (v) from congrArg iI (hv9.symm)]
        refine pu_callS (v := (F2) v) (As := [.ref z0, .int (iI (v))]) (rest := [.int (iI (1)), .ref z0, .int (iI (0)), .ref g]) CP_mv ⟨hx, hb, hml, hown, hts⟩ (f_at l D cI base st Z z0 z1 z2 z5 z6 z7 hJ v (by omega)) (va_cwS 2 hts gL_passing_L_folderAt rfl rfl rfl (by decide +kernel) ⟨(Nat.le_of_ble_eq_true rfl), (Nat.le_of_ble_eq_true rfl)⟩) ⟨hSW, hC2⟩ rfl rfl hl.1 (Nat.le_of_ble_eq_true rfl) dL_passing_59 ⟨(Nat.le_of_ble_eq_true rfl), (Nat.le_of_ble_eq_true rfl)⟩ ?_
        refine pv_iconst hx hb dL_passing_62 ?_
        have hxv := hJ.2.2.1 v (by omega) (by omega)
        refine wr_call (As := [.ref z0, .int (iI (1)), .int (iI ((F2) v)), .int (iI (0))]) (rest := [.int (iI (0)), .ref g]) CP_mv ⟨hx, hb, hml, hown, hts⟩ (d_putBehind l D cI base st Z z0 z1 z2 z5 z6 z7 (by omega) hJ.2.2.1 hJ.2.2.2.2.2.1 hJ.2.2.2.2.2.2.1 (by omega) ((F2) v) (by omega) v (PL_k hJ (by omega)) hv.1 G8 dm0 SP8 hPT0 0) (vx_cwSW 4 hts gL_passing_L_done rfl rfl rfl (by decide +kernel) ⟨(Nat.le_of_ble_eq_true rfl), (Nat.le_of_ble_eq_true rfl)⟩) ⟨hSW, hC2⟩ rfl rfl hl.1 (Nat.le_of_ble_eq_true rfl) dL_passing_63 ⟨(Nat.le_of_ble_eq_true rfl), (Nat.le_of_ble_eq_true rfl)⟩ hS (fun q h => Or.inl h) (fun H locs hP2 hz hk hS => ?_)
        have hC2 : CW D cI base z0 z1 z2 z5 z6 z7 (n + 1) (c2 + 1) (M2 + dm0) (insF (F2) (v + 1) (c2)) G8 SP8 RF2 RC2 H := hP2
        have hC := CW_fr hC hk (fun q h y => hDJ.1 q h y)
        have hO := OP_fr hO hk hDJ.2.2.1
        have hGP := GP_fr hGP hk hgz
        have hSW := hSW0.behind hbl hAb hS
        refine pv_ast1 (i := 0) (v := c2) hx hb hK hGP hS (Or.inr hgb) (by omega) (by decide) dL_passing_66 (fun H locs hGP hz hk hS => ?_)
        have hC := CW_fr (A := fun q => q = g) hC hk (fun q h y => hgx (y ▸ h))
        have hC2 := CW_fr (A := fun q => q = g) hC2 hk (fun q h y => hgz (y ▸ h))
        have hO := OP_fr (A := fun q => q = g) hO hk (fun y => hgp y.symm)
        have hSW := hSW0.behind hbl hAb hS
        refine pv_iinc (lv' := [(5, .int (iI (1))), (4, .ref g), (3, .int (iI (1))), (2, .int (iI (n))), (0, .ref z0), (1, .int (iI (z)))]) hx hb dL_passing_67 hl (k := 0) rfl (by decide) rfl (fun ls hl => ?_)
        refine lv_goto (tgt := 19) hx hb dL_passing_70 (by decide) ?_
        refine lv_iload hx hb dL_passing_19 (lv_at hl 0 rfl) ?_
        refine lv_iload_n hx hb dL_passing_21 rfl (lv_at hl 2 rfl) ?_
        refine pv_icmp_ge (tgt := 73) hx hb dL_passing_22 (by decide) (by omega) (fun _ => ?_) (fun c9 => False.elim (by omega))
        refine pv_iconst hx hb dL_passing_73 ?_
        refine lv_istore (lv' := [(5, .int (iI (1))), (4, .ref g), (3, .int (iI (1))), (2, .int (iI (n))), (0, .ref z0), (1, .int (iI (z)))]) hx hb dL_passing_74 hl (by decide) rfl (fun ls hl => ?_)
        refine pv_iconst hx hb dL_passing_76 ?_
        refine lv_istore (lv' := [(6, .int (iI (0))), (5, .int (iI (1))), (4, .ref g), (3, .int (iI (1))), (2, .int (iI (n))), (0, .ref z0), (1, .int (iI (z)))]) hx hb dL_passing_77 hl (by decide) rfl (fun ls hl => ?_)
        refine lv_iload hx hb dL_passing_79 (lv_at hl 0 rfl) ?_
        refine lv_iload_n hx hb dL_passing_81 rfl (lv_at hl 3 rfl) ?_
        refine pv_icmp_ge (tgt := 141) hx hb dL_passing_82 (by decide) (by omega) (fun c9 => False.elim (by omega)) (fun _ => ?_)
        refine lv_iload_n hx hb dL_passing_85 rfl (lv_at hl 4 rfl) ?_
        refine lv_iload_n hx hb dL_passing_86 rfl (lv_at hl 3 rfl) ?_
        refine pv_iadd hx hb dL_passing_87 ?_
        refine pv_bipush hx hb dL_passing_88 (by decide +kernel) ?_
        refine pv_icmp_gt (tgt := 141) hx hb dL_passing_90 (by decide) (by omega) (fun c9 => False.elim (by omega)) (fun _ => ?_)
        refine lv_iload hx hb dL_passing_93 (lv_at hl 1 rfl) ?_
        refine pv_if_eq (tgt := 132) hx hb dL_passing_95 (by decide) (by omega) (fun c9 => False.elim (by omega)) (fun _ => ?_)
        refine lv_aload hx hb dL_passing_98 (lv_at hl 2 rfl) ?_
        refine lv_iload hx hb dL_passing_100 (lv_at hl 0 rfl) ?_
        refine pv_ald1 (i := 0) (v := c2) hx hb hK hGP (by omega) (by decide) (by simp [upd]) dL_passing_102 ?_
        refine pv_if_lt (tgt := 132) hx hb dL_passing_103 (by decide) (by omega) (fun c9 => False.elim (by omega)) (fun _ => ?_)
        refine lv_aload_n hx hb dL_passing_106 rfl (lv_at hl 5 rfl) ?_
        refine pv_iconst hx hb dL_passing_107 ?_
        refine lv_aload hx hb dL_passing_108 (lv_at hl 2 rfl) ?_
        refine lv_iload hx hb dL_passing_110 (lv_at hl 0 rfl) ?_
        refine pv_ald1 (i := 0) (v := c2) hx hb hK hGP (by omega) (by decide) (by simp [upd]) dL_passing_112 ?_
        refine pv_iconst hx hb dL_passing_113 ?_
        refine wr_call (As := [.ref z0, .int (iI (2)), .int (iI (c2)), .int (iI (0))]) (rest := []) CP_mv ⟨hx, hb, hml, hown, hts⟩ (d_takeOut l D cI base st Z z0 z1 z2 z5 z6 z7 hJ1.1 hJ1.2.2.1 (INV_RF hJ1) (c2) (by omega) (v + 1) (PL_kx hJ1 (by omega) (ins_at F2 (v + 1) c2)) (by omega) 0) (vx_cwSW 4 hts gL_passing_L_done rfl rfl rfl (by decide +kernel) ⟨(Nat.le_of_ble_eq_true rfl), (Nat.le_of_ble_eq_true rfl)⟩) ⟨hSW, hC2⟩ rfl rfl hl.1 (Nat.le_of_ble_eq_true rfl) dL_passing_114 ⟨(Nat.le_of_ble_eq_true rfl), (Nat.le_of_ble_eq_true rfl)⟩ hS (fun q h => Or.inl h) (fun H locs hP2 hz hk hS => ?_)
        have hC2 : CW D cI base z0 z1 z2 z5 z6 z7 (n + 1 - 1) (c2 + 1) (M2 + dm0) (remF (insF (F2) (v + 1) (c2)) (v + 1)) (remF G8 (v + 1)) SP8 (sendF RF2 (c2) (fa (insF (F2) (v + 1) (c2)) (n + 1) (v + 1 + 1))) RC2 H := hP2
        have hC := CW_fr hC hk (fun q h y => hDJ.1 q h y)
        have hO := OP_fr hO hk hDJ.2.2.1
        have hGP := GP_fr hGP hk hgz
        have hSW := hSW0.behind hbl hAb hS
        have hid0 := send_id (RF := RF2) (g := c2) (nx := fa (insF (F2) (v + 1) (c2)) (n + 1) (v + 1 + 1)) (fun k a b9 => RF_ne hJ ⟨a, b9⟩ (by omega))
        have hJ8 := INV_ext (INV_take hJ1 ⟨by omega, by omega, (ins_at F2 (v + 1) c2)⟩) hid0
        have hC2 := CW_RF hC2 hid0
        rw [rem_ins, show n + 1 - 1 = n by omega] at hC2 hJ8
        refine lv_iload_n hx hb dL_passing_117 rfl (lv_at hl 4 rfl) ?_
        refine lv_iload_n hx hb dL_passing_118 rfl (lv_at hl 3 rfl) ?_
        refine pv_iadd hx hb dL_passing_119 ?_
        refine pv_iconst hx hb dL_passing_120 ?_
        refine pv_isub hx hb dL_passing_121 ?_
        refine lv_iload hx hb dL_passing_122 (lv_at hl 0 rfl) ?_
        refine pv_isub hx hb dL_passing_124 ?_
        refine pv_nesame (tgt := 132) hx hb dL_passing_125 (by decide) (by omega) ?_
        refine pv_iconst hx hb dL_passing_128 ?_
        refine lv_goto (tgt := 133) hx hb dL_passing_129 (by decide) ?_
        refine lv_istore (lv' := [(5, .int (iI (1))), (6, .int (iI (0))), (4, .ref g), (3, .int (iI (1))), (2, .int (iI (n))), (0, .ref z0), (1, .int (iI (z)))]) hx hb dL_passing_133 hl (by decide) rfl (fun ls hl => ?_)
        refine pv_iinc (lv' := [(6, .int (iI (1))), (5, .int (iI (1))), (4, .ref g), (3, .int (iI (1))), (2, .int (iI (n))), (0, .ref z0), (1, .int (iI (z)))]) hx hb dL_passing_135 hl (k := 1) rfl (by decide) rfl (fun ls hl => ?_)
        refine lv_goto (tgt := 79) hx hb dL_passing_138 (by decide) ?_
        refine lv_iload hx hb dL_passing_79 (lv_at hl 0 rfl) ?_
        refine lv_iload_n hx hb dL_passing_81 rfl (lv_at hl 3 rfl) ?_
        refine pv_icmp_ge (tgt := 141) hx hb dL_passing_82 (by decide) (by omega) (fun _ => ?_) (fun c9 => False.elim (by omega))
        refine lv_iload hx hb dL_passing_141 (lv_at hl 1 rfl) ?_
        refine pv_if_eq (tgt := 158) hx hb dL_passing_143 (by decide) (by omega) (fun c9 => False.elim (by omega)) (fun _ => ?_)
        refine lv_aload_n hx hb dL_passing_146 rfl (lv_at hl 5 rfl) ?_
        refine pu_callV (v := n) (As := []) (rest := []) CP_mv ⟨hx, hb, hml, hown, hts⟩ (c_size l D cI base st Z z0 z1 z2 z5 z6 z7 hn) (cwV 0 hts gL_passing_X0_size rfl rfl rfl (by decide +kernel) ⟨(Nat.le_of_ble_eq_true rfl), (Nat.le_of_ble_eq_true rfl)⟩) ⟨hSW, hC2⟩ (CP_rc ⟨hSW, hC2⟩) rfl rfl hl.1 (Nat.le_of_ble_eq_true rfl) dL_passing_147 ⟨(Nat.le_of_ble_eq_true rfl), (Nat.le_of_ble_eq_true rfl)⟩ ?_
        refine lv_iload_n hx hb dL_passing_150 rfl (lv_at hl 4 rfl) ?_
        refine pv_nesame (tgt := 158) hx hb dL_passing_151 (by decide) (rfl) ?_
        refine pv_iconst hx hb dL_passing_154 ?_
        refine lv_goto (tgt := 159) hx hb dL_passing_155 (by decide) ?_
        refine W.widen (k := 1) (n := 2) (by omega) (by omega) ?_
        exact nw_zret hx hb hr hlocks hS dL_passing_159 rfl (Or.inr rfl) ⟨_, _, _, _, _, _, _, _, _, _, _, _, _, _, _, _, hC, hC2, hO, hI, hJ8, hR, by omega, by omega, by omega⟩
    · skip
      refine pv_icmp_gt (tgt := 73) hx hb dL_passing_30 (by decide) (by omega) (fun _ => ?_) (fun c9 => False.elim (by omega))
      refine pv_iconst hx hb dL_passing_73 ?_
      refine lv_istore (lv' := [(5, .int (iI (1))), (4, .ref g), (3, .int (iI (1))), (2, .int (iI (n))), (0, .ref z0), (1, .int (iI (z)))]) hx hb dL_passing_74 hl (by decide) rfl (fun ls hl => ?_)
      refine pv_iconst hx hb dL_passing_76 ?_
      refine lv_istore (lv' := [(6, .int (iI (0))), (5, .int (iI (1))), (4, .ref g), (3, .int (iI (1))), (2, .int (iI (n))), (0, .ref z0), (1, .int (iI (z)))]) hx hb dL_passing_77 hl (by decide) rfl (fun ls hl => ?_)
      refine lv_iload hx hb dL_passing_79 (lv_at hl 0 rfl) ?_
      refine lv_iload_n hx hb dL_passing_81 rfl (lv_at hl 3 rfl) ?_
      refine pv_icmp_ge (tgt := 141) hx hb dL_passing_82 (by decide) (by omega) (fun c9 => False.elim (by omega)) (fun _ => ?_)
      refine lv_iload_n hx hb dL_passing_85 rfl (lv_at hl 4 rfl) ?_
      refine lv_iload_n hx hb dL_passing_86 rfl (lv_at hl 3 rfl) ?_
      refine pv_iadd hx hb dL_passing_87 ?_
      refine pv_bipush hx hb dL_passing_88 (by decide +kernel) ?_
      refine pv_icmp_gt (tgt := 141) hx hb dL_passing_90 (by decide) (by omega) (fun _ => ?_) (fun c9 => False.elim (by omega))
      refine lv_iload hx hb dL_passing_141 (lv_at hl 1 rfl) ?_
      refine pv_if_eq (tgt := 158) hx hb dL_passing_143 (by decide) (by omega) (fun c9 => False.elim (by omega)) (fun _ => ?_)
      refine lv_aload_n hx hb dL_passing_146 rfl (lv_at hl 5 rfl) ?_
      refine pu_callV (v := n) (As := []) (rest := []) CP_mv ⟨hx, hb, hml, hown, hts⟩ (c_size l D cI base st Z z0 z1 z2 z5 z6 z7 hn) (cwV 0 hts gL_passing_X0_size rfl rfl rfl (by decide +kernel) ⟨(Nat.le_of_ble_eq_true rfl), (Nat.le_of_ble_eq_true rfl)⟩) ⟨hSW, hC2⟩ (CP_rc ⟨hSW, hC2⟩) rfl rfl hl.1 (Nat.le_of_ble_eq_true rfl) dL_passing_147 ⟨(Nat.le_of_ble_eq_true rfl), (Nat.le_of_ble_eq_true rfl)⟩ ?_
      refine lv_iload_n hx hb dL_passing_150 rfl (lv_at hl 4 rfl) ?_
      refine pv_nesame (tgt := 158) hx hb dL_passing_151 (by decide) (rfl) ?_
      refine pv_iconst hx hb dL_passing_154 ?_
      refine lv_goto (tgt := 159) hx hb dL_passing_155 (by decide) ?_
      refine W.widen (k := 1) (n := 2) (by omega) (by omega) ?_
      exact nw_zret hx hb hr hlocks hS dL_passing_159 rfl (Or.inr rfl) ⟨_, _, _, _, _, _, _, _, _, _, _, _, _, _, _, _, hC, hC2, hO, hI, hJ, hR, by omega, by omega, by omega⟩
  · skip
    rw [show iI (z % 2) = iI (1) from congrArg iI (by omega)]
    refine pv_iadd hx hb dL_passing_9 ?_
    rw [show iI (1 + 1) = iI (2) from congrArg iI (by decide)]
    refine lv_istore_n (lv' := [(3, .int (iI (2))), (2, .int (iI (n))), (0, .ref z0), (1, .int (iI (z)))]) hx hb dL_passing_10 rfl hl (by decide) rfl (fun ls hl => ?_)
    refine pv_iconst hx hb dL_passing_11 ?_
    refine pv_newa (A := fun q : Nat => s.heap.size ≤ q) (H0 := s.heap) (k9 := 2) (N2 := 2) (atype := .int) (ty := .int) (a0 := (2, .inl (fun _ => iI 0))) hx hb (hts (.arrayClass .int) (by decide +kernel)) rfl hK 0 rfl (fun _ _ h => h) (show va_P D vwCl [] s.heap from fun k q h => by simp at h) ⟨fun i j p q h => by simp at h, fun k q h => by simp at h⟩ va_S.rf (fun q h => h) (fun cA => by rw [iI_0]; rfl) (by omega) rfl (Nat.le_of_ble_eq_true rfl) (Nat.le_of_ble_eq_true rfl) (Nat.le_of_ble_eq_true rfl) dL_passing_12 (fun g H hPg hDg hSg => ?_)
    have hgb : s.heap.size ≤ g := hDg.2 0 _ rfl
    have hGP : GP D cI g 2 (fun _ => iI 0) H := hPg
    have hgx : ¬ mC x0 x1 x2 x5 x6 x7 g := fun h => absurd (CW_mlt hC g h) (Nat.not_lt.mpr hgb)
    have hgz : ¬ mC z0 z1 z2 z5 z6 z7 g := fun h => absurd (CW_mlt hC2 g h) (Nat.not_lt.mpr hgb)
    have hgp : ¬ g = pp := fun h => absurd (h ▸ OP_lt hO) (Nat.not_lt.mpr hgb)
    have hC := CW_fr hC (fun q h1 h2 => hSg.2.1 q h1 h2) (fun q h => Nat.not_le.mpr (CW_mlt hC q h))
    have hC2 := CW_fr hC2 (fun q h1 h2 => hSg.2.1 q h1 h2) (fun q h => Nat.not_le.mpr (CW_mlt hC2 q h))
    have hO := OP_fr hO (fun q h1 h2 => hSg.2.1 q h1 h2) (Nat.not_le.mpr (OP_lt hO))
    have hS : va_S (fun q : Nat => mC z0 z1 z2 z5 z6 z7 q ∨ s.heap.size ≤ q) s.heap H [] := va_S_wk hSg (fun q h => Or.inr h)
    have hSW := hSW0.behind hbl hAb hS
    refine lv_astore (lv' := [(4, .ref g), (3, .int (iI (2))), (2, .int (iI (n))), (0, .ref z0), (1, .int (iI (z)))]) hx hb dL_passing_14 hl (by decide) rfl (fun ls hl => ?_)
    refine pv_iconst hx hb dL_passing_16 ?_
    refine lv_istore (lv' := [(5, .int (iI (0))), (4, .ref g), (3, .int (iI (2))), (2, .int (iI (n))), (0, .ref z0), (1, .int (iI (z)))]) hx hb dL_passing_17 hl (by decide) rfl (fun ls hl => ?_)
    refine lv_iload hx hb dL_passing_19 (lv_at hl 0 rfl) ?_
    refine lv_iload_n hx hb dL_passing_21 rfl (lv_at hl 2 rfl) ?_
    refine pv_icmp_ge (tgt := 73) hx hb dL_passing_22 (by decide) (by omega) (fun c9 => False.elim (by omega)) (fun _ => ?_)
    refine lv_iload_n hx hb dL_passing_25 rfl (lv_at hl 3 rfl) ?_
    refine lv_iload_n hx hb dL_passing_26 rfl (lv_at hl 2 rfl) ?_
    refine pv_iadd hx hb dL_passing_27 ?_
    refine pv_bipush hx hb dL_passing_28 (by decide +kernel) ?_
    by_cases hfit : n + 2 ≤ 60
    · by_cases hn0 : n = 0
      · skip
        refine pv_icmp_gt (tgt := 73) hx hb dL_passing_30 (by decide) (by omega) (fun c9 => False.elim (by omega)) (fun _ => ?_)
        obtain ⟨G8, dm0, SP8, hPT0⟩ := PT_ex (G2) (n) (0) (SP2)
        have hJ1 := INV_put hJ (by omega) (by omega) (show 0 ≤ 0 ∧ 0 ≤ n by omega) hPT0
        refine lv_aload hx hb dL_passing_33 (lv_at hl 1 rfl) ?_
        refine lv_iload hx hb dL_passing_35 (lv_at hl 0 rfl) ?_
        refine lv_iload_n hx hb dL_passing_37 rfl (lv_at hl 3 rfl) ?_
        refine pv_if_ne (tgt := 51) hx hb dL_passing_38 (by decide) (by omega) (fun c9 => False.elim (by omega)) (fun _ => ?_)
        refine lv_aload_n hx hb dL_passing_41 rfl (lv_at hl 4 rfl) ?_
        refine pv_iconst hx hb dL_passing_42 ?_
        refine pv_iconst hx hb dL_passing_43 ?_
        refine pv_iconst hx hb dL_passing_44 ?_
        refine wr_call (As := [.ref z0, .int (iI (0)), .int (iI (0)), .int (iI (0))]) (rest := [.int (iI (0)), .ref g]) CP_mv ⟨hx, hb, hml, hown, hts⟩ (d_putFirst l D cI base st Z z0 z1 z2 z5 z6 z7 (by omega) hJ.2.2.2.2.2.1 hJ.2.2.2.2.2.2.1 (by omega) G8 dm0 SP8 hPT0 0 0) (vx_cwSW 4 hts gL_passing_L_done rfl rfl rfl (by decide +kernel) ⟨(Nat.le_of_ble_eq_true rfl), (Nat.le_of_ble_eq_true rfl)⟩) ⟨hSW, hC2⟩ rfl rfl hl.1 (Nat.le_of_ble_eq_true rfl) dL_passing_45 ⟨(Nat.le_of_ble_eq_true rfl), (Nat.le_of_ble_eq_true rfl)⟩ hS (fun q h => Or.inl h) (fun H locs hP2 hz hk hS => ?_)
        have hC2 : CW D cI base z0 z1 z2 z5 z6 z7 (n + 1) (c2 + 1) (M2 + dm0) (insF (F2) (0) (c2)) G8 SP8 RF2 RC2 H := hP2
        have hC := CW_fr hC hk (fun q h y => hDJ.1 q h y)
        have hO := OP_fr hO hk hDJ.2.2.1
        have hGP := GP_fr hGP hk hgz
        have hSW := hSW0.behind hbl hAb hS
        refine lv_goto (tgt := 66) hx hb dL_passing_48 (by decide) ?_
        refine pv_ast1 (i := 0) (v := c2) hx hb hK hGP hS (Or.inr hgb) (by omega) (by decide) dL_passing_66 (fun H locs hGP hz hk hS => ?_)
        have hC := CW_fr (A := fun q => q = g) hC hk (fun q h y => hgx (y ▸ h))
        have hC2 := CW_fr (A := fun q => q = g) hC2 hk (fun q h y => hgz (y ▸ h))
        have hO := OP_fr (A := fun q => q = g) hO hk (fun y => hgp y.symm)
        have hSW := hSW0.behind hbl hAb hS
        refine pv_iinc (lv' := [(5, .int (iI (1))), (4, .ref g), (3, .int (iI (2))), (2, .int (iI (n))), (0, .ref z0), (1, .int (iI (z)))]) hx hb dL_passing_67 hl (k := 0) rfl (by decide) rfl (fun ls hl => ?_)
        refine lv_goto (tgt := 19) hx hb dL_passing_70 (by decide) ?_
        refine lv_iload hx hb dL_passing_19 (lv_at hl 0 rfl) ?_
        refine lv_iload_n hx hb dL_passing_21 rfl (lv_at hl 2 rfl) ?_
        refine pv_icmp_ge (tgt := 73) hx hb dL_passing_22 (by decide) (by omega) (fun c9 => False.elim (by omega)) (fun _ => ?_)
        refine lv_iload_n hx hb dL_passing_25 rfl (lv_at hl 3 rfl) ?_
        refine lv_iload_n hx hb dL_passing_26 rfl (lv_at hl 2 rfl) ?_
        refine pv_iadd hx hb dL_passing_27 ?_
        refine pv_bipush hx hb dL_passing_28 (by decide +kernel) ?_
        refine pv_icmp_gt (tgt := 73) hx hb dL_passing_30 (by decide) (by omega) (fun c9 => False.elim (by omega)) (fun _ => ?_)
        obtain ⟨G9, dm1, SP9, hPT1⟩ := PT_ex (G8) (n + 1) (0) (SP8)
        have hJ2 := INV_put hJ1 (by omega) (by omega) (show 0 ≤ 0 ∧ 0 ≤ n + 1 by omega) hPT1
        refine lv_aload hx hb dL_passing_33 (lv_at hl 1 rfl) ?_
        refine lv_iload hx hb dL_passing_35 (lv_at hl 0 rfl) ?_
        refine lv_iload_n hx hb dL_passing_37 rfl (lv_at hl 3 rfl) ?_
        refine pv_if_ne (tgt := 51) hx hb dL_passing_38 (by decide) (by omega) (fun c9 => False.elim (by omega)) (fun _ => ?_)
        refine lv_aload_n hx hb dL_passing_41 rfl (lv_at hl 4 rfl) ?_
        refine pv_iconst hx hb dL_passing_42 ?_
        refine pv_iconst hx hb dL_passing_43 ?_
        refine pv_iconst hx hb dL_passing_44 ?_
        refine wr_call (As := [.ref z0, .int (iI (0)), .int (iI (0)), .int (iI (0))]) (rest := [.int (iI (1)), .ref g]) CP_mv ⟨hx, hb, hml, hown, hts⟩ (d_putFirst l D cI base st Z z0 z1 z2 z5 z6 z7 (by omega) hJ1.2.2.2.2.2.1 hJ1.2.2.2.2.2.2.1 (by omega) G9 dm1 SP9 hPT1 0 0) (vx_cwSW 4 hts gL_passing_L_done rfl rfl rfl (by decide +kernel) ⟨(Nat.le_of_ble_eq_true rfl), (Nat.le_of_ble_eq_true rfl)⟩) ⟨hSW, hC2⟩ rfl rfl hl.1 (Nat.le_of_ble_eq_true rfl) dL_passing_45 ⟨(Nat.le_of_ble_eq_true rfl), (Nat.le_of_ble_eq_true rfl)⟩ hS (fun q h => Or.inl h) (fun H locs hP2 hz hk hS => ?_)
        have hC2 : CW D cI base z0 z1 z2 z5 z6 z7 (n + 1 + 1) (c2 + 1 + 1) (M2 + dm0 + dm1) (insF (insF (F2) (0) (c2)) (0) (c2 + 1)) G9 SP9 RF2 RC2 H := hP2
        have hC := CW_fr hC hk (fun q h y => hDJ.1 q h y)
        have hO := OP_fr hO hk hDJ.2.2.1
        have hGP := GP_fr hGP hk hgz
        have hSW := hSW0.behind hbl hAb hS
        refine lv_goto (tgt := 66) hx hb dL_passing_48 (by decide) ?_
        refine pv_ast1 (i := 1) (v := c2 + 1) hx hb hK hGP hS (Or.inr hgb) (by omega) (by decide) dL_passing_66 (fun H locs hGP hz hk hS => ?_)
        have hC := CW_fr (A := fun q => q = g) hC hk (fun q h y => hgx (y ▸ h))
        have hC2 := CW_fr (A := fun q => q = g) hC2 hk (fun q h y => hgz (y ▸ h))
        have hO := OP_fr (A := fun q => q = g) hO hk (fun y => hgp y.symm)
        have hSW := hSW0.behind hbl hAb hS
        refine pv_iinc (lv' := [(5, .int (iI (2))), (4, .ref g), (3, .int (iI (2))), (2, .int (iI (n))), (0, .ref z0), (1, .int (iI (z)))]) hx hb dL_passing_67 hl (k := 0) rfl (by decide) rfl (fun ls hl => ?_)
        refine lv_goto (tgt := 19) hx hb dL_passing_70 (by decide) ?_
        refine lv_iload hx hb dL_passing_19 (lv_at hl 0 rfl) ?_
        refine lv_iload_n hx hb dL_passing_21 rfl (lv_at hl 2 rfl) ?_
        refine pv_icmp_ge (tgt := 73) hx hb dL_passing_22 (by decide) (by omega) (fun _ => ?_) (fun c9 => False.elim (by omega))
        refine pv_iconst hx hb dL_passing_73 ?_
        refine lv_istore (lv' := [(5, .int (iI (1))), (4, .ref g), (3, .int (iI (2))), (2, .int (iI (n))), (0, .ref z0), (1, .int (iI (z)))]) hx hb dL_passing_74 hl (by decide) rfl (fun ls hl => ?_)
        refine pv_iconst hx hb dL_passing_76 ?_
        refine lv_istore (lv' := [(6, .int (iI (0))), (5, .int (iI (1))), (4, .ref g), (3, .int (iI (2))), (2, .int (iI (n))), (0, .ref z0), (1, .int (iI (z)))]) hx hb dL_passing_77 hl (by decide) rfl (fun ls hl => ?_)
        refine lv_iload hx hb dL_passing_79 (lv_at hl 0 rfl) ?_
        refine lv_iload_n hx hb dL_passing_81 rfl (lv_at hl 3 rfl) ?_
        refine pv_icmp_ge (tgt := 141) hx hb dL_passing_82 (by decide) (by omega) (fun c9 => False.elim (by omega)) (fun _ => ?_)
        refine lv_iload_n hx hb dL_passing_85 rfl (lv_at hl 4 rfl) ?_
        refine lv_iload_n hx hb dL_passing_86 rfl (lv_at hl 3 rfl) ?_
        refine pv_iadd hx hb dL_passing_87 ?_
        refine pv_bipush hx hb dL_passing_88 (by decide +kernel) ?_
        refine pv_icmp_gt (tgt := 141) hx hb dL_passing_90 (by decide) (by omega) (fun c9 => False.elim (by omega)) (fun _ => ?_)
        refine lv_iload hx hb dL_passing_93 (lv_at hl 1 rfl) ?_
        refine pv_if_eq (tgt := 132) hx hb dL_passing_95 (by decide) (by omega) (fun c9 => False.elim (by omega)) (fun _ => ?_)
        refine lv_aload hx hb dL_passing_98 (lv_at hl 2 rfl) ?_
        refine lv_iload hx hb dL_passing_100 (lv_at hl 0 rfl) ?_
        refine pv_ald1 (i := 0) (v := c2) hx hb hK hGP (by omega) (by decide) (by simp [upd]) dL_passing_102 ?_
        refine pv_if_lt (tgt := 132) hx hb dL_passing_103 (by decide) (by omega) (fun c9 => False.elim (by omega)) (fun _ => ?_)
        refine lv_aload_n hx hb dL_passing_106 rfl (lv_at hl 5 rfl) ?_
        refine pv_iconst hx hb dL_passing_107 ?_
        refine lv_aload hx hb dL_passing_108 (lv_at hl 2 rfl) ?_
        refine lv_iload hx hb dL_passing_110 (lv_at hl 0 rfl) ?_
        refine pv_ald1 (i := 0) (v := c2) hx hb hK hGP (by omega) (by decide) (by simp [upd]) dL_passing_112 ?_
        refine pv_iconst hx hb dL_passing_113 ?_
        refine wr_call (As := [.ref z0, .int (iI (2)), .int (iI (c2)), .int (iI (0))]) (rest := []) CP_mv ⟨hx, hb, hml, hown, hts⟩ (d_takeOut l D cI base st Z z0 z1 z2 z5 z6 z7 hJ2.1 hJ2.2.2.1 (INV_RF hJ2) (c2) (by omega) (0 + 1) (PL_kx hJ2 (by omega) (ins_at1 F2 (0) c2 (c2 + 1))) (by omega) 0) (vx_cwSW 4 hts gL_passing_L_done rfl rfl rfl (by decide +kernel) ⟨(Nat.le_of_ble_eq_true rfl), (Nat.le_of_ble_eq_true rfl)⟩) ⟨hSW, hC2⟩ rfl rfl hl.1 (Nat.le_of_ble_eq_true rfl) dL_passing_114 ⟨(Nat.le_of_ble_eq_true rfl), (Nat.le_of_ble_eq_true rfl)⟩ hS (fun q h => Or.inl h) (fun H locs hP2 hz hk hS => ?_)
        have hC2 : CW D cI base z0 z1 z2 z5 z6 z7 (n + 1 + 1 - 1) (c2 + 1 + 1) (M2 + dm0 + dm1) (remF (insF (insF (F2) (0) (c2)) (0) (c2 + 1)) (0 + 1)) (remF G9 (0 + 1)) SP9 (sendF RF2 (c2) (fa (insF (insF (F2) (0) (c2)) (0) (c2 + 1)) (n + 1 + 1) (0 + 1 + 1))) RC2 H := hP2
        have hC := CW_fr hC hk (fun q h y => hDJ.1 q h y)
        have hO := OP_fr hO hk hDJ.2.2.1
        have hGP := GP_fr hGP hk hgz
        have hSW := hSW0.behind hbl hAb hS
        have hid0 := send_id (RF := RF2) (g := c2) (nx := fa (insF (insF (F2) (0) (c2)) (0) (c2 + 1)) (n + 1 + 1) (0 + 1 + 1)) (fun k a b9 => RF_ne hJ ⟨a, b9⟩ (by omega))
        have hJ8 := INV_ext (INV_take hJ2 ⟨by omega, by omega, (ins_at1 F2 (0) c2 (c2 + 1))⟩) hid0
        have hC2 := CW_RF hC2 hid0
        rw [rem_ins1, show n + 1 + 1 - 1 = n + 1 by omega] at hC2 hJ8
        refine lv_iload_n hx hb dL_passing_117 rfl (lv_at hl 4 rfl) ?_
        refine lv_iload_n hx hb dL_passing_118 rfl (lv_at hl 3 rfl) ?_
        refine pv_iadd hx hb dL_passing_119 ?_
        refine pv_iconst hx hb dL_passing_120 ?_
        refine pv_isub hx hb dL_passing_121 ?_
        refine lv_iload hx hb dL_passing_122 (lv_at hl 0 rfl) ?_
        refine pv_isub hx hb dL_passing_124 ?_
        refine pv_nesame (tgt := 132) hx hb dL_passing_125 (by decide) (by omega) ?_
        refine pv_iconst hx hb dL_passing_128 ?_
        refine lv_goto (tgt := 133) hx hb dL_passing_129 (by decide) ?_
        refine lv_istore (lv' := [(5, .int (iI (1))), (6, .int (iI (0))), (4, .ref g), (3, .int (iI (2))), (2, .int (iI (n))), (0, .ref z0), (1, .int (iI (z)))]) hx hb dL_passing_133 hl (by decide) rfl (fun ls hl => ?_)
        refine pv_iinc (lv' := [(6, .int (iI (1))), (5, .int (iI (1))), (4, .ref g), (3, .int (iI (2))), (2, .int (iI (n))), (0, .ref z0), (1, .int (iI (z)))]) hx hb dL_passing_135 hl (k := 1) rfl (by decide) rfl (fun ls hl => ?_)
        refine lv_goto (tgt := 79) hx hb dL_passing_138 (by decide) ?_
        refine lv_iload hx hb dL_passing_79 (lv_at hl 0 rfl) ?_
        refine lv_iload_n hx hb dL_passing_81 rfl (lv_at hl 3 rfl) ?_
        refine pv_icmp_ge (tgt := 141) hx hb dL_passing_82 (by decide) (by omega) (fun c9 => False.elim (by omega)) (fun _ => ?_)
        refine lv_iload_n hx hb dL_passing_85 rfl (lv_at hl 4 rfl) ?_
        refine lv_iload_n hx hb dL_passing_86 rfl (lv_at hl 3 rfl) ?_
        refine pv_iadd hx hb dL_passing_87 ?_
        refine pv_bipush hx hb dL_passing_88 (by decide +kernel) ?_
        refine pv_icmp_gt (tgt := 141) hx hb dL_passing_90 (by decide) (by omega) (fun c9 => False.elim (by omega)) (fun _ => ?_)
        refine lv_iload hx hb dL_passing_93 (lv_at hl 1 rfl) ?_
        refine pv_if_eq (tgt := 132) hx hb dL_passing_95 (by decide) (by omega) (fun c9 => False.elim (by omega)) (fun _ => ?_)
        refine lv_aload hx hb dL_passing_98 (lv_at hl 2 rfl) ?_
        refine lv_iload hx hb dL_passing_100 (lv_at hl 0 rfl) ?_
        refine pv_ald1 (i := 1) (v := c2 + 1) hx hb hK hGP (by omega) (by decide) (by simp [upd]) dL_passing_102 ?_
        refine pv_if_lt (tgt := 132) hx hb dL_passing_103 (by decide) (by omega) (fun c9 => False.elim (by omega)) (fun _ => ?_)
        refine lv_aload_n hx hb dL_passing_106 rfl (lv_at hl 5 rfl) ?_
        refine pv_iconst hx hb dL_passing_107 ?_
        refine lv_aload hx hb dL_passing_108 (lv_at hl 2 rfl) ?_
        refine lv_iload hx hb dL_passing_110 (lv_at hl 0 rfl) ?_
        refine pv_ald1 (i := 1) (v := c2 + 1) hx hb hK hGP (by omega) (by decide) (by simp [upd]) dL_passing_112 ?_
        refine pv_iconst hx hb dL_passing_113 ?_
        refine wr_call (As := [.ref z0, .int (iI (2)), .int (iI (c2 + 1)), .int (iI (0))]) (rest := []) CP_mv ⟨hx, hb, hml, hown, hts⟩ (d_takeOut l D cI base st Z z0 z1 z2 z5 z6 z7 hJ8.1 hJ8.2.2.1 (INV_RF hJ8) (c2 + 1) (by omega) (0) (PL_kx hJ8 (by omega) (ins_at F2 (0) (c2 + 1))) (by omega) 0) (vx_cwSW 4 hts gL_passing_L_done rfl rfl rfl (by decide +kernel) ⟨(Nat.le_of_ble_eq_true rfl), (Nat.le_of_ble_eq_true rfl)⟩) ⟨hSW, hC2⟩ rfl rfl hl.1 (Nat.le_of_ble_eq_true rfl) dL_passing_114 ⟨(Nat.le_of_ble_eq_true rfl), (Nat.le_of_ble_eq_true rfl)⟩ hS (fun q h => Or.inl h) (fun H locs hP2 hz hk hS => ?_)
        have hC2 : CW D cI base z0 z1 z2 z5 z6 z7 (n + 1 - 1) (c2 + 1 + 1) (M2 + dm0 + dm1) (remF (insF F2 (0) (c2 + 1)) (0)) (remF (remF G9 (0 + 1)) (0)) SP9 (sendF RF2 (c2 + 1) (fa (insF F2 (0) (c2 + 1)) (n + 1) (0 + 1))) RC2 H := hP2
        have hC := CW_fr hC hk (fun q h y => hDJ.1 q h y)
        have hO := OP_fr hO hk hDJ.2.2.1
        have hGP := GP_fr hGP hk hgz
        have hSW := hSW0.behind hbl hAb hS
        have hid1 := send_id (RF := RF2) (g := c2 + 1) (nx := fa (insF F2 (0) (c2 + 1)) (n + 1) (0 + 1)) (fun k a b9 => RF_ne hJ ⟨a, b9⟩ (by omega))
        have hJ9 := INV_ext (INV_take hJ8 ⟨by omega, by omega, (ins_at F2 (0) (c2 + 1))⟩) hid1
        have hC2 := CW_RF hC2 hid1
        rw [rem_ins, show n + 1 - 1 = n by omega] at hC2 hJ9
        refine lv_iload_n hx hb dL_passing_117 rfl (lv_at hl 4 rfl) ?_
        refine lv_iload_n hx hb dL_passing_118 rfl (lv_at hl 3 rfl) ?_
        refine pv_iadd hx hb dL_passing_119 ?_
        refine pv_iconst hx hb dL_passing_120 ?_
        refine pv_isub hx hb dL_passing_121 ?_
        refine lv_iload hx hb dL_passing_122 (lv_at hl 0 rfl) ?_
        refine pv_isub hx hb dL_passing_124 ?_
        refine pv_nesame (tgt := 132) hx hb dL_passing_125 (by decide) (by omega) ?_
        refine pv_iconst hx hb dL_passing_128 ?_
        refine lv_goto (tgt := 133) hx hb dL_passing_129 (by decide) ?_
        refine lv_istore (lv' := [(5, .int (iI (1))), (6, .int (iI (1))), (4, .ref g), (3, .int (iI (2))), (2, .int (iI (n))), (0, .ref z0), (1, .int (iI (z)))]) hx hb dL_passing_133 hl (by decide) rfl (fun ls hl => ?_)
        refine pv_iinc (lv' := [(6, .int (iI (2))), (5, .int (iI (1))), (4, .ref g), (3, .int (iI (2))), (2, .int (iI (n))), (0, .ref z0), (1, .int (iI (z)))]) hx hb dL_passing_135 hl (k := 1) rfl (by decide) rfl (fun ls hl => ?_)
        refine lv_goto (tgt := 79) hx hb dL_passing_138 (by decide) ?_
        refine lv_iload hx hb dL_passing_79 (lv_at hl 0 rfl) ?_
        refine lv_iload_n hx hb dL_passing_81 rfl (lv_at hl 3 rfl) ?_
        refine pv_icmp_ge (tgt := 141) hx hb dL_passing_82 (by decide) (by omega) (fun _ => ?_) (fun c9 => False.elim (by omega))
        refine lv_iload hx hb dL_passing_141 (lv_at hl 1 rfl) ?_
        refine pv_if_eq (tgt := 158) hx hb dL_passing_143 (by decide) (by omega) (fun c9 => False.elim (by omega)) (fun _ => ?_)
        refine lv_aload_n hx hb dL_passing_146 rfl (lv_at hl 5 rfl) ?_
        refine pu_callV (v := n) (As := []) (rest := []) CP_mv ⟨hx, hb, hml, hown, hts⟩ (c_size l D cI base st Z z0 z1 z2 z5 z6 z7 hn) (cwV 0 hts gL_passing_X0_size rfl rfl rfl (by decide +kernel) ⟨(Nat.le_of_ble_eq_true rfl), (Nat.le_of_ble_eq_true rfl)⟩) ⟨hSW, hC2⟩ (CP_rc ⟨hSW, hC2⟩) rfl rfl hl.1 (Nat.le_of_ble_eq_true rfl) dL_passing_147 ⟨(Nat.le_of_ble_eq_true rfl), (Nat.le_of_ble_eq_true rfl)⟩ ?_
        refine lv_iload_n hx hb dL_passing_150 rfl (lv_at hl 4 rfl) ?_
        refine pv_nesame (tgt := 158) hx hb dL_passing_151 (by decide) (rfl) ?_
        refine pv_iconst hx hb dL_passing_154 ?_
        refine lv_goto (tgt := 159) hx hb dL_passing_155 (by decide) ?_
        refine W.widen (k := 1) (n := 2) (by omega) (by omega) ?_
        exact nw_zret hx hb hr hlocks hS dL_passing_159 rfl (Or.inr rfl) ⟨_, _, _, _, _, _, _, _, _, _, _, _, _, _, _, _, hC, hC2, hO, hI, hJ9, hR, by omega, by omega, by omega⟩
      · obtain ⟨v, hv9⟩ : ∃ y, y = z / 4 % n := ⟨_, rfl⟩
        have hv : 0 ≤ v ∧ v < n := by rw [hv9]; exact ⟨Int.emod_nonneg _ hn0, Int.emod_lt_of_pos _ (by omega)⟩
        refine pv_icmp_gt (tgt := 73) hx hb dL_passing_30 (by decide) (by omega) (fun c9 => False.elim (by omega)) (fun _ => ?_)
        obtain ⟨G8, dm0, SP8, hPT0⟩ := PT_ex (G2) (n) (v + 1) (SP2)
        have hJ1 := INV_put hJ (by omega) (by omega) (show 0 ≤ v + 1 ∧ v + 1 ≤ n by omega) hPT0
        refine lv_aload hx hb dL_passing_33 (lv_at hl 1 rfl) ?_
        refine lv_iload hx hb dL_passing_35 (lv_at hl 0 rfl) ?_
        refine lv_iload_n hx hb dL_passing_37 rfl (lv_at hl 3 rfl) ?_
        refine pv_if_ne (tgt := 51) hx hb dL_passing_38 (by decide) (by omega) (fun _ => ?_) (fun c9 => False.elim (by omega))
        refine lv_aload_n hx hb dL_passing_51 rfl (lv_at hl 4 rfl) ?_
        refine pv_iconst hx hb dL_passing_52 ?_
        refine lv_aload_n hx hb dL_passing_53 rfl (lv_at hl 4 rfl) ?_
        refine lv_iload_n hx hb dL_passing_54 rfl (lv_at hl 5 rfl) ?_
        refine pv_iconst hx hb dL_passing_55 ?_
        refine pv_idiv hx hb dL_passing_56 (by omega) (by omega) ?_
        refine lv_iload_n hx hb dL_passing_57 rfl (lv_at hl 3 rfl) ?_
        refine pv_irem hx hb dL_passing_58 (by omega) (by omega) ?_
        rw [show iI ((z / 4) % n) = iI (v) from congrArg iI (hv9.symm)]
        refine pu_callS (v := (F2) v) (As := [.ref z0, .int (iI (v))]) (rest := [.int (iI (1)), .ref z0, .int (iI (0)), .ref g]) CP_mv ⟨hx, hb, hml, hown, hts⟩ (f_at l D cI base st Z z0 z1 z2 z5 z6 z7 hJ v (by omega)) (va_cwS 2 hts gL_passing_L_folderAt rfl rfl rfl (by decide +kernel) ⟨(Nat.le_of_ble_eq_true rfl), (Nat.le_of_ble_eq_true rfl)⟩) ⟨hSW, hC2⟩ rfl rfl hl.1 (Nat.le_of_ble_eq_true rfl) dL_passing_59 ⟨(Nat.le_of_ble_eq_true rfl), (Nat.le_of_ble_eq_true rfl)⟩ ?_
        refine pv_iconst hx hb dL_passing_62 ?_
        have hxv := hJ.2.2.1 v (by omega) (by omega)
        refine wr_call (As := [.ref z0, .int (iI (1)), .int (iI ((F2) v)), .int (iI (0))]) (rest := [.int (iI (0)), .ref g]) CP_mv ⟨hx, hb, hml, hown, hts⟩ (d_putBehind l D cI base st Z z0 z1 z2 z5 z6 z7 (by omega) hJ.2.2.1 hJ.2.2.2.2.2.1 hJ.2.2.2.2.2.2.1 (by omega) ((F2) v) (by omega) v (PL_k hJ (by omega)) hv.1 G8 dm0 SP8 hPT0 0) (vx_cwSW 4 hts gL_passing_L_done rfl rfl rfl (by decide +kernel) ⟨(Nat.le_of_ble_eq_true rfl), (Nat.le_of_ble_eq_true rfl)⟩) ⟨hSW, hC2⟩ rfl rfl hl.1 (Nat.le_of_ble_eq_true rfl) dL_passing_63 ⟨(Nat.le_of_ble_eq_true rfl), (Nat.le_of_ble_eq_true rfl)⟩ hS (fun q h => Or.inl h) (fun H locs hP2 hz hk hS => ?_)
        have hC2 : CW D cI base z0 z1 z2 z5 z6 z7 (n + 1) (c2 + 1) (M2 + dm0) (insF (F2) (v + 1) (c2)) G8 SP8 RF2 RC2 H := hP2
        have hC := CW_fr hC hk (fun q h y => hDJ.1 q h y)
        have hO := OP_fr hO hk hDJ.2.2.1
        have hGP := GP_fr hGP hk hgz
        have hSW := hSW0.behind hbl hAb hS
        refine pv_ast1 (i := 0) (v := c2) hx hb hK hGP hS (Or.inr hgb) (by omega) (by decide) dL_passing_66 (fun H locs hGP hz hk hS => ?_)
        have hC := CW_fr (A := fun q => q = g) hC hk (fun q h y => hgx (y ▸ h))
        have hC2 := CW_fr (A := fun q => q = g) hC2 hk (fun q h y => hgz (y ▸ h))
        have hO := OP_fr (A := fun q => q = g) hO hk (fun y => hgp y.symm)
        have hSW := hSW0.behind hbl hAb hS
        refine pv_iinc (lv' := [(5, .int (iI (1))), (4, .ref g), (3, .int (iI (2))), (2, .int (iI (n))), (0, .ref z0), (1, .int (iI (z)))]) hx hb dL_passing_67 hl (k := 0) rfl (by decide) rfl (fun ls hl => ?_)
        refine lv_goto (tgt := 19) hx hb dL_passing_70 (by decide) ?_
        refine lv_iload hx hb dL_passing_19 (lv_at hl 0 rfl) ?_
        refine lv_iload_n hx hb dL_passing_21 rfl (lv_at hl 2 rfl) ?_
        refine pv_icmp_ge (tgt := 73) hx hb dL_passing_22 (by decide) (by omega) (fun c9 => False.elim (by omega)) (fun _ => ?_)
        refine lv_iload_n hx hb dL_passing_25 rfl (lv_at hl 3 rfl) ?_
        refine lv_iload_n hx hb dL_passing_26 rfl (lv_at hl 2 rfl) ?_
        refine pv_iadd hx hb dL_passing_27 ?_
        refine pv_bipush hx hb dL_passing_28 (by decide +kernel) ?_
        refine pv_icmp_gt (tgt := 73) hx hb dL_passing_30 (by decide) (by omega) (fun c9 => False.elim (by omega)) (fun _ => ?_)
        obtain ⟨G9, dm1, SP9, hPT1⟩ := PT_ex (G8) (n + 1) (v + 1) (SP8)
        have hJ2 := INV_put hJ1 (by omega) (by omega) (show 0 ≤ v + 1 ∧ v + 1 ≤ n + 1 by omega) hPT1
        refine lv_aload hx hb dL_passing_33 (lv_at hl 1 rfl) ?_
        refine lv_iload hx hb dL_passing_35 (lv_at hl 0 rfl) ?_
        refine lv_iload_n hx hb dL_passing_37 rfl (lv_at hl 3 rfl) ?_
        refine pv_if_ne (tgt := 51) hx hb dL_passing_38 (by decide) (by omega) (fun _ => ?_) (fun c9 => False.elim (by omega))
        refine lv_aload_n hx hb dL_passing_51 rfl (lv_at hl 4 rfl) ?_
        refine pv_iconst hx hb dL_passing_52 ?_
        refine lv_aload_n hx hb dL_passing_53 rfl (lv_at hl 4 rfl) ?_
        refine lv_iload_n hx hb dL_passing_54 rfl (lv_at hl 5 rfl) ?_
        refine pv_iconst hx hb dL_passing_55 ?_
        refine pv_idiv hx hb dL_passing_56 (by omega) (by omega) ?_
        refine lv_iload_n hx hb dL_passing_57 rfl (lv_at hl 3 rfl) ?_
        refine pv_irem hx hb dL_passing_58 (by omega) (by omega) ?_
        rw [show iI ((z / 4) % n) = iI (v) from congrArg iI (hv9.symm)]
        refine pu_callS (v := (insF (F2) (v + 1) (c2)) v) (As := [.ref z0, .int (iI (v))]) (rest := [.int (iI (1)), .ref z0, .int (iI (1)), .ref g]) CP_mv ⟨hx, hb, hml, hown, hts⟩ (f_at l D cI base st Z z0 z1 z2 z5 z6 z7 hJ1 v (by omega)) (va_cwS 2 hts gL_passing_L_folderAt rfl rfl rfl (by decide +kernel) ⟨(Nat.le_of_ble_eq_true rfl), (Nat.le_of_ble_eq_true rfl)⟩) ⟨hSW, hC2⟩ rfl rfl hl.1 (Nat.le_of_ble_eq_true rfl) dL_passing_59 ⟨(Nat.le_of_ble_eq_true rfl), (Nat.le_of_ble_eq_true rfl)⟩ ?_
        refine pv_iconst hx hb dL_passing_62 ?_
        have hxv := hJ1.2.2.1 v (by omega) (by omega)
        refine wr_call (As := [.ref z0, .int (iI (1)), .int (iI ((insF (F2) (v + 1) (c2)) v)), .int (iI (0))]) (rest := [.int (iI (1)), .ref g]) CP_mv ⟨hx, hb, hml, hown, hts⟩ (d_putBehind l D cI base st Z z0 z1 z2 z5 z6 z7 (by omega) hJ1.2.2.1 hJ1.2.2.2.2.2.1 hJ1.2.2.2.2.2.2.1 (by omega) ((insF (F2) (v + 1) (c2)) v) (by omega) v (PL_k hJ1 (by omega)) hv.1 G9 dm1 SP9 hPT1 0) (vx_cwSW 4 hts gL_passing_L_done rfl rfl rfl (by decide +kernel) ⟨(Nat.le_of_ble_eq_true rfl), (Nat.le_of_ble_eq_true rfl)⟩) ⟨hSW, hC2⟩ rfl rfl hl.1 (Nat.le_of_ble_eq_true rfl) dL_passing_63 ⟨(Nat.le_of_ble_eq_true rfl), (Nat.le_of_ble_eq_true rfl)⟩ hS (fun q h => Or.inl h) (fun H locs hP2 hz hk hS => ?_)
        have hC2 : CW D cI base z0 z1 z2 z5 z6 z7 (n + 1 + 1) (c2 + 1 + 1) (M2 + dm0 + dm1) (insF (insF (F2) (v + 1) (c2)) (v + 1) (c2 + 1)) G9 SP9 RF2 RC2 H := hP2
        have hC := CW_fr hC hk (fun q h y => hDJ.1 q h y)
        have hO := OP_fr hO hk hDJ.2.2.1
        have hGP := GP_fr hGP hk hgz
        have hSW := hSW0.behind hbl hAb hS
        refine pv_ast1 (i := 1) (v := c2 + 1) hx hb hK hGP hS (Or.inr hgb) (by omega) (by decide) dL_passing_66 (fun H locs hGP hz hk hS => ?_)
        have hC := CW_fr (A := fun q => q = g) hC hk (fun q h y => hgx (y ▸ h))
        have hC2 := CW_fr (A := fun q => q = g) hC2 hk (fun q h y => hgz (y ▸ h))
        have hO := OP_fr (A := fun q => q = g) hO hk (fun y => hgp y.symm)
        have hSW := hSW0.behind hbl hAb hS
        refine pv_iinc (lv' := [(5, .int (iI (2))), (4, .ref g), (3, .int (iI (2))), (2, .int (iI (n))), (0, .ref z0), (1, .int (iI (z)))]) hx hb dL_passing_67 hl (k := 0) rfl (by decide) rfl (fun ls hl => ?_)
        refine lv_goto (tgt := 19) hx hb dL_passing_70 (by decide) ?_
        refine lv_iload hx hb dL_passing_19 (lv_at hl 0 rfl) ?_
        refine lv_iload_n hx hb dL_passing_21 rfl (lv_at hl 2 rfl) ?_
        refine pv_icmp_ge (tgt := 73) hx hb dL_passing_22 (by decide) (by omega) (fun _ => ?_) (fun c9 => False.elim (by omega))
        refine pv_iconst hx hb dL_passing_73 ?_
        refine lv_istore (lv' := [(5, .int (iI (1))), (4, .ref g), (3, .int (iI (2))), (2, .int (iI (n))), (0, .ref z0), (1, .int (iI (z)))]) hx hb dL_passing_74 hl (by decide) rfl (fun ls hl => ?_)
        refine pv_iconst hx hb dL_passing_76 ?_
        refine lv_istore (lv' := [(6, .int (iI (0))), (5, .int (iI (1))), (4, .ref g), (3, .int (iI (2))), (2, .int (iI (n))), (0, .ref z0), (1, .int (iI (z)))]) hx hb dL_passing_77 hl (by decide) rfl (fun ls hl => ?_)
        refine lv_iload hx hb dL_passing_79 (lv_at hl 0 rfl) ?_
        refine lv_iload_n hx hb dL_passing_81 rfl (lv_at hl 3 rfl) ?_
        refine pv_icmp_ge (tgt := 141) hx hb dL_passing_82 (by decide) (by omega) (fun c9 => False.elim (by omega)) (fun _ => ?_)
        refine lv_iload_n hx hb dL_passing_85 rfl (lv_at hl 4 rfl) ?_
        refine lv_iload_n hx hb dL_passing_86 rfl (lv_at hl 3 rfl) ?_
        refine pv_iadd hx hb dL_passing_87 ?_
        refine pv_bipush hx hb dL_passing_88 (by decide +kernel) ?_
        refine pv_icmp_gt (tgt := 141) hx hb dL_passing_90 (by decide) (by omega) (fun c9 => False.elim (by omega)) (fun _ => ?_)
        refine lv_iload hx hb dL_passing_93 (lv_at hl 1 rfl) ?_
        refine pv_if_eq (tgt := 132) hx hb dL_passing_95 (by decide) (by omega) (fun c9 => False.elim (by omega)) (fun _ => ?_)
        refine lv_aload hx hb dL_passing_98 (lv_at hl 2 rfl) ?_
        refine lv_iload hx hb dL_passing_100 (lv_at hl 0 rfl) ?_
        refine pv_ald1 (i := 0) (v := c2) hx hb hK hGP (by omega) (by decide) (by simp [upd]) dL_passing_102 ?_
        refine pv_if_lt (tgt := 132) hx hb dL_passing_103 (by decide) (by omega) (fun c9 => False.elim (by omega)) (fun _ => ?_)
        refine lv_aload_n hx hb dL_passing_106 rfl (lv_at hl 5 rfl) ?_
        refine pv_iconst hx hb dL_passing_107 ?_
        refine lv_aload hx hb dL_passing_108 (lv_at hl 2 rfl) ?_
        refine lv_iload hx hb dL_passing_110 (lv_at hl 0 rfl) ?_
        refine pv_ald1 (i := 0) (v := c2) hx hb hK hGP (by omega) (by decide) (by simp [upd]) dL_passing_112 ?_
        refine pv_iconst hx hb dL_passing_113 ?_
        refine wr_call (As := [.ref z0, .int (iI (2)), .int (iI (c2)), .int (iI (0))]) (rest := []) CP_mv ⟨hx, hb, hml, hown, hts⟩ (d_takeOut l D cI base st Z z0 z1 z2 z5 z6 z7 hJ2.1 hJ2.2.2.1 (INV_RF hJ2) (c2) (by omega) (v + 1 + 1) (PL_kx hJ2 (by omega) (ins_at1 F2 (v + 1) c2 (c2 + 1))) (by omega) 0) (vx_cwSW 4 hts gL_passing_L_done rfl rfl rfl (by decide +kernel) ⟨(Nat.le_of_ble_eq_true rfl), (Nat.le_of_ble_eq_true rfl)⟩) ⟨hSW, hC2⟩ rfl rfl hl.1 (Nat.le_of_ble_eq_true rfl) dL_passing_114 ⟨(Nat.le_of_ble_eq_true rfl), (Nat.le_of_ble_eq_true rfl)⟩ hS (fun q h => Or.inl h) (fun H locs hP2 hz hk hS => ?_)
        have hC2 : CW D cI base z0 z1 z2 z5 z6 z7 (n + 1 + 1 - 1) (c2 + 1 + 1) (M2 + dm0 + dm1) (remF (insF (insF (F2) (v + 1) (c2)) (v + 1) (c2 + 1)) (v + 1 + 1)) (remF G9 (v + 1 + 1)) SP9 (sendF RF2 (c2) (fa (insF (insF (F2) (v + 1) (c2)) (v + 1) (c2 + 1)) (n + 1 + 1) (v + 1 + 1 + 1))) RC2 H := hP2
        have hC := CW_fr hC hk (fun q h y => hDJ.1 q h y)
        have hO := OP_fr hO hk hDJ.2.2.1
        have hGP := GP_fr hGP hk hgz
        have hSW := hSW0.behind hbl hAb hS
        have hid0 := send_id (RF := RF2) (g := c2) (nx := fa (insF (insF (F2) (v + 1) (c2)) (v + 1) (c2 + 1)) (n + 1 + 1) (v + 1 + 1 + 1)) (fun k a b9 => RF_ne hJ ⟨a, b9⟩ (by omega))
        have hJ8 := INV_ext (INV_take hJ2 ⟨by omega, by omega, (ins_at1 F2 (v + 1) c2 (c2 + 1))⟩) hid0
        have hC2 := CW_RF hC2 hid0
        rw [rem_ins1, show n + 1 + 1 - 1 = n + 1 by omega] at hC2 hJ8
        refine lv_iload_n hx hb dL_passing_117 rfl (lv_at hl 4 rfl) ?_
        refine lv_iload_n hx hb dL_passing_118 rfl (lv_at hl 3 rfl) ?_
        refine pv_iadd hx hb dL_passing_119 ?_
        refine pv_iconst hx hb dL_passing_120 ?_
        refine pv_isub hx hb dL_passing_121 ?_
        refine lv_iload hx hb dL_passing_122 (lv_at hl 0 rfl) ?_
        refine pv_isub hx hb dL_passing_124 ?_
        refine pv_nesame (tgt := 132) hx hb dL_passing_125 (by decide) (by omega) ?_
        refine pv_iconst hx hb dL_passing_128 ?_
        refine lv_goto (tgt := 133) hx hb dL_passing_129 (by decide) ?_
        refine lv_istore (lv' := [(5, .int (iI (1))), (6, .int (iI (0))), (4, .ref g), (3, .int (iI (2))), (2, .int (iI (n))), (0, .ref z0), (1, .int (iI (z)))]) hx hb dL_passing_133 hl (by decide) rfl (fun ls hl => ?_)
        refine pv_iinc (lv' := [(6, .int (iI (1))), (5, .int (iI (1))), (4, .ref g), (3, .int (iI (2))), (2, .int (iI (n))), (0, .ref z0), (1, .int (iI (z)))]) hx hb dL_passing_135 hl (k := 1) rfl (by decide) rfl (fun ls hl => ?_)
        refine lv_goto (tgt := 79) hx hb dL_passing_138 (by decide) ?_
        refine lv_iload hx hb dL_passing_79 (lv_at hl 0 rfl) ?_
        refine lv_iload_n hx hb dL_passing_81 rfl (lv_at hl 3 rfl) ?_
        refine pv_icmp_ge (tgt := 141) hx hb dL_passing_82 (by decide) (by omega) (fun c9 => False.elim (by omega)) (fun _ => ?_)
        refine lv_iload_n hx hb dL_passing_85 rfl (lv_at hl 4 rfl) ?_
        refine lv_iload_n hx hb dL_passing_86 rfl (lv_at hl 3 rfl) ?_
        refine pv_iadd hx hb dL_passing_87 ?_
        refine pv_bipush hx hb dL_passing_88 (by decide +kernel) ?_
        refine pv_icmp_gt (tgt := 141) hx hb dL_passing_90 (by decide) (by omega) (fun c9 => False.elim (by omega)) (fun _ => ?_)
        refine lv_iload hx hb dL_passing_93 (lv_at hl 1 rfl) ?_
        refine pv_if_eq (tgt := 132) hx hb dL_passing_95 (by decide) (by omega) (fun c9 => False.elim (by omega)) (fun _ => ?_)
        refine lv_aload hx hb dL_passing_98 (lv_at hl 2 rfl) ?_
        refine lv_iload hx hb dL_passing_100 (lv_at hl 0 rfl) ?_
        refine pv_ald1 (i := 1) (v := c2 + 1) hx hb hK hGP (by omega) (by decide) (by simp [upd]) dL_passing_102 ?_
        refine pv_if_lt (tgt := 132) hx hb dL_passing_103 (by decide) (by omega) (fun c9 => False.elim (by omega)) (fun _ => ?_)
        refine lv_aload_n hx hb dL_passing_106 rfl (lv_at hl 5 rfl) ?_
        refine pv_iconst hx hb dL_passing_107 ?_
        refine lv_aload hx hb dL_passing_108 (lv_at hl 2 rfl) ?_
        refine lv_iload hx hb dL_passing_110 (lv_at hl 0 rfl) ?_
        refine pv_ald1 (i := 1) (v := c2 + 1) hx hb hK hGP (by omega) (by decide) (by simp [upd]) dL_passing_112 ?_
        refine pv_iconst hx hb dL_passing_113 ?_
        refine wr_call (As := [.ref z0, .int (iI (2)), .int (iI (c2 + 1)), .int (iI (0))]) (rest := []) CP_mv ⟨hx, hb, hml, hown, hts⟩ (d_takeOut l D cI base st Z z0 z1 z2 z5 z6 z7 hJ8.1 hJ8.2.2.1 (INV_RF hJ8) (c2 + 1) (by omega) (v + 1) (PL_kx hJ8 (by omega) (ins_at F2 (v + 1) (c2 + 1))) (by omega) 0) (vx_cwSW 4 hts gL_passing_L_done rfl rfl rfl (by decide +kernel) ⟨(Nat.le_of_ble_eq_true rfl), (Nat.le_of_ble_eq_true rfl)⟩) ⟨hSW, hC2⟩ rfl rfl hl.1 (Nat.le_of_ble_eq_true rfl) dL_passing_114 ⟨(Nat.le_of_ble_eq_true rfl), (Nat.le_of_ble_eq_true rfl)⟩ hS (fun q h => Or.inl h) (fun H locs hP2 hz hk hS => ?_)
        have hC2 : CW D cI base z0 z1 z2 z5 z6 z7 (n + 1 - 1) (c2 + 1 + 1) (M2 + dm0 + dm1) (remF (insF F2 (v + 1) (c2 + 1)) (v + 1)) (remF (remF G9 (v + 1 + 1)) (v + 1)) SP9 (sendF RF2 (c2 + 1) (fa (insF F2 (v + 1) (c2 + 1)) (n + 1) (v + 1 + 1))) RC2 H := hP2
        have hC := CW_fr hC hk (fun q h y => hDJ.1 q h y)
        have hO := OP_fr hO hk hDJ.2.2.1
        have hGP := GP_fr hGP hk hgz
        have hSW := hSW0.behind hbl hAb hS
        have hid1 := send_id (RF := RF2) (g := c2 + 1) (nx := fa (insF F2 (v + 1) (c2 + 1)) (n + 1) (v + 1 + 1)) (fun k a b9 => RF_ne hJ ⟨a, b9⟩ (by omega))
        have hJ9 := INV_ext (INV_take hJ8 ⟨by omega, by omega, (ins_at F2 (v + 1) (c2 + 1))⟩) hid1
        have hC2 := CW_RF hC2 hid1
        rw [rem_ins, show n + 1 - 1 = n by omega] at hC2 hJ9
        refine lv_iload_n hx hb dL_passing_117 rfl (lv_at hl 4 rfl) ?_
        refine lv_iload_n hx hb dL_passing_118 rfl (lv_at hl 3 rfl) ?_
        refine pv_iadd hx hb dL_passing_119 ?_
        refine pv_iconst hx hb dL_passing_120 ?_
        refine pv_isub hx hb dL_passing_121 ?_
        refine lv_iload hx hb dL_passing_122 (lv_at hl 0 rfl) ?_
        refine pv_isub hx hb dL_passing_124 ?_
        refine pv_nesame (tgt := 132) hx hb dL_passing_125 (by decide) (by omega) ?_
        refine pv_iconst hx hb dL_passing_128 ?_
        refine lv_goto (tgt := 133) hx hb dL_passing_129 (by decide) ?_
        refine lv_istore (lv' := [(5, .int (iI (1))), (6, .int (iI (1))), (4, .ref g), (3, .int (iI (2))), (2, .int (iI (n))), (0, .ref z0), (1, .int (iI (z)))]) hx hb dL_passing_133 hl (by decide) rfl (fun ls hl => ?_)
        refine pv_iinc (lv' := [(6, .int (iI (2))), (5, .int (iI (1))), (4, .ref g), (3, .int (iI (2))), (2, .int (iI (n))), (0, .ref z0), (1, .int (iI (z)))]) hx hb dL_passing_135 hl (k := 1) rfl (by decide) rfl (fun ls hl => ?_)
        refine lv_goto (tgt := 79) hx hb dL_passing_138 (by decide) ?_
        refine lv_iload hx hb dL_passing_79 (lv_at hl 0 rfl) ?_
        refine lv_iload_n hx hb dL_passing_81 rfl (lv_at hl 3 rfl) ?_
        refine pv_icmp_ge (tgt := 141) hx hb dL_passing_82 (by decide) (by omega) (fun _ => ?_) (fun c9 => False.elim (by omega))
        refine lv_iload hx hb dL_passing_141 (lv_at hl 1 rfl) ?_
        refine pv_if_eq (tgt := 158) hx hb dL_passing_143 (by decide) (by omega) (fun c9 => False.elim (by omega)) (fun _ => ?_)
        refine lv_aload_n hx hb dL_passing_146 rfl (lv_at hl 5 rfl) ?_
        refine pu_callV (v := n) (As := []) (rest := []) CP_mv ⟨hx, hb, hml, hown, hts⟩ (c_size l D cI base st Z z0 z1 z2 z5 z6 z7 hn) (cwV 0 hts gL_passing_X0_size rfl rfl rfl (by decide +kernel) ⟨(Nat.le_of_ble_eq_true rfl), (Nat.le_of_ble_eq_true rfl)⟩) ⟨hSW, hC2⟩ (CP_rc ⟨hSW, hC2⟩) rfl rfl hl.1 (Nat.le_of_ble_eq_true rfl) dL_passing_147 ⟨(Nat.le_of_ble_eq_true rfl), (Nat.le_of_ble_eq_true rfl)⟩ ?_
        refine lv_iload_n hx hb dL_passing_150 rfl (lv_at hl 4 rfl) ?_
        refine pv_nesame (tgt := 158) hx hb dL_passing_151 (by decide) (rfl) ?_
        refine pv_iconst hx hb dL_passing_154 ?_
        refine lv_goto (tgt := 159) hx hb dL_passing_155 (by decide) ?_
        refine W.widen (k := 1) (n := 2) (by omega) (by omega) ?_
        exact nw_zret hx hb hr hlocks hS dL_passing_159 rfl (Or.inr rfl) ⟨_, _, _, _, _, _, _, _, _, _, _, _, _, _, _, _, hC, hC2, hO, hI, hJ9, hR, by omega, by omega, by omega⟩
    · skip
      refine pv_icmp_gt (tgt := 73) hx hb dL_passing_30 (by decide) (by omega) (fun _ => ?_) (fun c9 => False.elim (by omega))
      refine pv_iconst hx hb dL_passing_73 ?_
      refine lv_istore (lv' := [(5, .int (iI (1))), (4, .ref g), (3, .int (iI (2))), (2, .int (iI (n))), (0, .ref z0), (1, .int (iI (z)))]) hx hb dL_passing_74 hl (by decide) rfl (fun ls hl => ?_)
      refine pv_iconst hx hb dL_passing_76 ?_
      refine lv_istore (lv' := [(6, .int (iI (0))), (5, .int (iI (1))), (4, .ref g), (3, .int (iI (2))), (2, .int (iI (n))), (0, .ref z0), (1, .int (iI (z)))]) hx hb dL_passing_77 hl (by decide) rfl (fun ls hl => ?_)
      refine lv_iload hx hb dL_passing_79 (lv_at hl 0 rfl) ?_
      refine lv_iload_n hx hb dL_passing_81 rfl (lv_at hl 3 rfl) ?_
      refine pv_icmp_ge (tgt := 141) hx hb dL_passing_82 (by decide) (by omega) (fun c9 => False.elim (by omega)) (fun _ => ?_)
      refine lv_iload_n hx hb dL_passing_85 rfl (lv_at hl 4 rfl) ?_
      refine lv_iload_n hx hb dL_passing_86 rfl (lv_at hl 3 rfl) ?_
      refine pv_iadd hx hb dL_passing_87 ?_
      refine pv_bipush hx hb dL_passing_88 (by decide +kernel) ?_
      refine pv_icmp_gt (tgt := 141) hx hb dL_passing_90 (by decide) (by omega) (fun _ => ?_) (fun c9 => False.elim (by omega))
      refine lv_iload hx hb dL_passing_141 (lv_at hl 1 rfl) ?_
      refine pv_if_eq (tgt := 158) hx hb dL_passing_143 (by decide) (by omega) (fun c9 => False.elim (by omega)) (fun _ => ?_)
      refine lv_aload_n hx hb dL_passing_146 rfl (lv_at hl 5 rfl) ?_
      refine pu_callV (v := n) (As := []) (rest := []) CP_mv ⟨hx, hb, hml, hown, hts⟩ (c_size l D cI base st Z z0 z1 z2 z5 z6 z7 hn) (cwV 0 hts gL_passing_X0_size rfl rfl rfl (by decide +kernel) ⟨(Nat.le_of_ble_eq_true rfl), (Nat.le_of_ble_eq_true rfl)⟩) ⟨hSW, hC2⟩ (CP_rc ⟨hSW, hC2⟩) rfl rfl hl.1 (Nat.le_of_ble_eq_true rfl) dL_passing_147 ⟨(Nat.le_of_ble_eq_true rfl), (Nat.le_of_ble_eq_true rfl)⟩ ?_
      refine lv_iload_n hx hb dL_passing_150 rfl (lv_at hl 4 rfl) ?_
      refine pv_nesame (tgt := 158) hx hb dL_passing_151 (by decide) (rfl) ?_
      refine pv_iconst hx hb dL_passing_154 ?_
      refine lv_goto (tgt := 159) hx hb dL_passing_155 (by decide) ?_
      refine W.widen (k := 1) (n := 2) (by omega) (by omega) ?_
      exact nw_zret hx hb hr hlocks hS dL_passing_159 rfl (Or.inr rfl) ⟨_, _, _, _, _, _, _, _, _, _, _, _, _, _, _, _, hC, hC2, hO, hI, hJ, hR, by omega, by omega, by omega⟩
