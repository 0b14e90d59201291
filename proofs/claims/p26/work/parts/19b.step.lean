/-- which cells a step may change -/
def mS (x0 x1 x2 x5 x6 x7 z0 z1 z2 z5 z6 z7 pp : Nat) : Nat → Prop := fun q => mC x0 x1 x2 x5 x6 x7 q ∨ mC z0 z1 z2 z5 z6 z7 q ∨ q = pp
set_option maxHeartbeats 4000000 in
set_option maxRecDepth 100000 in
theorem st_first {p : Program} {e : Env} {s : State} {m : MethodId} {below : List Frame} {meth : Method} {c : Code} (l : Launch) (hfl : l.stackTraces = false) {D : va_G} {cI : ClassId} {base st : Nat} {Z : Nat → Nat} {x0 x1 x2 x5 x6 x7 z0 z1 z2 z5 z6 z7 pp : Nat} {z : Int}
    (B : bd_At p s m ([.ref x0, .ref z0, .ref pp, .int (iI (z))] : List Value).toArray meth c cL_step 11 (some .boolean) wsL_step RL) (hSW0 : SW D cI base st Z s s.heap) (hDJ : DJ base x0 x1 x2 x5 x6 x7 z0 z1 z2 z5 z6 z7 pp) (hnc1 : va_Nc "java/lang/IllegalArgumentException" "java/lang/IllegalStateException" s) (hnc2 : va_Nc "java/lang/IllegalArgumentException" "java/lang/IndexOutOfBoundsException" s) (hS : va_S (mS x0 x1 x2 x5 x6 x7 z0 z1 z2 z5 z6 z7 pp) s.heap s.heap [])
    {n c1 M1 c2 M2 : Int} {F G SP RF RC F2 G2 SP2 RF2 RC2 PN : Int → Int} (hC : CW D cI base x0 x1 x2 x5 x6 x7 n c1 M1 F G SP RF RC s.heap) (hC2 : CW D cI base z0 z1 z2 z5 z6 z7 n c2 M2 F2 G2 SP2 RF2 RC2 s.heap) (hO : OP D cI pp PN s.heap) (hI : INV n c1 F G RF) (hJ : INV n c2 F2 G2 RF2) (hR : REL n F F2 RF RF2 RC RC2 PN) {k1 k2 : Int} (hn1 : n ≤ c1) (hk1 : c1 ≤ k1 ∧ k1 < 60) (hk2 : c2 ≤ k2 ∧ k2 < 200)
    {kd w : Int}  {fo : Int} {ls : Array Slot} (hl : lv_has ls 11 [(0, .ref x0), (1, .ref z0), (2, .ref pp), (3, .int (iI (z))), (4, .int (iI (n))), (5, .int (iI (kd))), (6, .int (iI (w))), (7, .int (iI (fo)))]) : W p l e ({ frames := 8, cells := 2, slots := 12, locals := 186 } : Room) s m ([.ref x0, .ref z0, .ref pp, .int (iI (z))] : List Value).toArray below meth c s.heap [] 0 0 (MQ below (mu_Q (some (.int (iI 1))) (fun H => RW D cI base x0 x1 x2 x5 x6 x7 z0 z1 z2 z5 z6 z7 pp (k1 + 1) (k2 + 1) H) (mS x0 x1 x2 x5 x6 x7 z0 z1 z2 z5 z6 z7 pp)) ([.ref x0, .ref z0, .ref pp, .int (iI (z))] : List Value).toArray s 2 12 (mS x0 x1 x2 x5 x6 x7 z0 z1 z2 z5 z6 z7 pp)) (F0 m 48 ls []) := by
  obtain ⟨hx, hb, hml, hr, hts, hown, hlocks⟩ := B
  have hK := hSW0.1
  obtain ⟨hn, hcm, hF, hfc, hFi, hG, hs, hRI⟩ := id hI
  obtain ⟨_, hcm2, hF2, hfc2, hFi2, hG2, hs2, hRI2⟩ := id hJ
  have hbl : base ≤ s.heap.size := CW_lt hC
  have hAb : ∀ q, (mS x0 x1 x2 x5 x6 x7 z0 z1 z2 z5 z6 z7 pp) q → base ≤ q := fun q h => by rcases h with h | h | h; exact CW_b hC q h; exact CW_b hC2 q h; exact h ▸ hDJ.2.2.2
  have hSW := hSW0
  obtain ⟨Ga, dm, SPa, hPT⟩ := PT_ex G n (0) SP
  obtain ⟨Gb, dn, SPb, hPT2⟩ := PT_ex G2 n (0) SP2
  refine lv_aload_n hx hb dL_step_48 rfl (lv_at hl 0 rfl) ?_
  refine pv_iconst hx hb dL_step_49 ?_
  refine pv_iconst hx hb dL_step_50 ?_
  refine pv_iconst hx hb dL_step_51 ?_
  refine wr_call (As := [.ref x0, .int (iI (0)), .int (iI (0)), .int (iI (0))]) (rest := []) CP_mv ⟨hx, hb, hml, hown, hts⟩ (d_putFirst l D cI base st Z x0 x1 x2 x5 x6 x7 (by omega) hG hs (by omega) Ga dm SPa hPT 0 0) (vx_cwSW 4 hts gL_step_L_done rfl rfl rfl (by decide +kernel) ⟨(Nat.le_of_ble_eq_true rfl), (Nat.le_of_ble_eq_true rfl)⟩) ⟨hSW, hC⟩ rfl rfl hl.1 (Nat.le_of_ble_eq_true rfl) dL_step_52 ⟨(Nat.le_of_ble_eq_true rfl), (Nat.le_of_ble_eq_true rfl)⟩ hS (fun q h => Or.inl h) (fun H locs hP2 hz hk hS => ?_)
  have hC : CW D cI base x0 x1 x2 x5 x6 x7 (n + 1) (c1 + 1) (M1 + dm) (insF F (0) c1) Ga SPa RF RC H := hP2
  have hC2 := CW_fr hC2 hk (fun q h y => hDJ.1 q y h)
  have hO := OP_fr hO hk hDJ.2.1
  have hSW := hSW0.behind hbl hAb hS
  refine lv_istore (lv' := [(8, .int (iI (c1))), (0, .ref x0), (1, .ref z0), (2, .ref pp), (3, .int (iI (z))), (4, .int (iI (n))), (5, .int (iI (kd))), (6, .int (iI (w))), (7, .int (iI (fo)))]) hx hb dL_step_55 hl (by decide) rfl (fun ls hl => ?_)
  refine lv_aload_n hx hb dL_step_57 rfl (lv_at hl 2 rfl) ?_
  refine pv_iconst hx hb dL_step_58 ?_
  refine pv_iconst hx hb dL_step_59 ?_
  refine pv_iconst hx hb dL_step_60 ?_
  refine wr_call (As := [.ref z0, .int (iI (0)), .int (iI (0)), .int (iI (0))]) (rest := []) CP_mv ⟨hx, hb, hml, hown, hts⟩ (d_putFirst l D cI base st Z z0 z1 z2 z5 z6 z7 (by omega) hG2 hs2 (by omega) Gb dn SPb hPT2 0 0) (vx_cwSW 4 hts gL_step_L_done rfl rfl rfl (by decide +kernel) ⟨(Nat.le_of_ble_eq_true rfl), (Nat.le_of_ble_eq_true rfl)⟩) ⟨hSW, hC2⟩ rfl rfl hl.1 (Nat.le_of_ble_eq_true rfl) dL_step_61 ⟨(Nat.le_of_ble_eq_true rfl), (Nat.le_of_ble_eq_true rfl)⟩ hS (fun q h => Or.inr (Or.inl h)) (fun H locs hP2 hz hk hS => ?_)
  have hC2 : CW D cI base z0 z1 z2 z5 z6 z7 (n + 1) (c2 + 1) (M2 + dn) (insF F2 (0) c2) Gb SPb RF2 RC2 H := hP2
  have hC := CW_fr hC hk (fun q h y => hDJ.1 q h y)
  have hO := OP_fr hO hk hDJ.2.2.1
  have hSW := hSW0.behind hbl hAb hS
  refine lv_istore (lv' := [(9, .int (iI (c2))), (8, .int (iI (c1))), (0, .ref x0), (1, .ref z0), (2, .ref pp), (3, .int (iI (z))), (4, .int (iI (n))), (5, .int (iI (kd))), (6, .int (iI (w))), (7, .int (iI (fo)))]) hx hb dL_step_64 hl (by decide) rfl (fun ls hl => ?_)
  refine lv_iload hx hb dL_step_66 (lv_at hl 1 rfl) ?_
  refine pv_if_lt (tgt := 77) hx hb dL_step_68 (by decide) (by omega) (fun c9 => False.elim (by omega)) (fun _ => ?_)
  refine lv_aload_n hx hb dL_step_71 rfl (lv_at hl 4 rfl) ?_
  refine lv_iload hx hb dL_step_72 (lv_at hl 1 rfl) ?_
  refine lv_iload hx hb dL_step_74 (lv_at hl 0 rfl) ?_
  obtain ⟨pf, hAp, hGP⟩ := hO
  refine pv_ast1 (i := c1) (v := c2) hx hb hK hGP hS (Or.inr (Or.inr rfl)) (show 0 ≤ c1 ∧ c1 < 64 by omega) (by decide) dL_step_76 (fun H locs hGP hz hk hS => ?_)
  have hO : OP D cI pp (uI PN c1 c2) H := ⟨_, AR_up hAp (by omega), hGP⟩
  have hC := CW_fr (A := fun q => q = pp) hC hk (fun q h y => hDJ.2.1 (y ▸ h))
  have hC2 := CW_fr (A := fun q => q = pp) hC2 hk (fun q h y => hDJ.2.2.1 (y ▸ h))
  refine lv_iload hx hb dL_step_77 (lv_at hl 1 rfl) ?_
  refine pv_if_ge (tgt := 86) hx hb dL_step_79 (by decide) (by omega) (fun _ => ?_) (fun c9 => False.elim (by omega))
  refine pv_iconst hx hb dL_step_86 ?_
  refine lv_iload hx hb dL_step_87 (lv_at hl 0 rfl) ?_
  refine pv_if_ge (tgt := 96) hx hb dL_step_89 (by decide) (by omega) (fun _ => ?_) (fun c9 => False.elim (by omega))
  refine pv_iconst hx hb dL_step_96 ?_
  refine pv_icmp_ne (tgt := 104) hx hb dL_step_97 (by decide) (by omega) (fun c9 => False.elim (by omega)) (fun _ => ?_)
  refine pv_iconst hx hb dL_step_100 ?_
  refine lv_goto (tgt := 105) hx hb dL_step_101 (by decide) ?_
  refine W.widen (k := 2) (n := 12) (by omega) (by omega) ?_
  exact nw_zret hx hb hr hlocks hS dL_step_105 rfl (Or.inr rfl) ⟨_, _, _, _, _, _, _, _, _, _, _, _, _, _, _, _, hC, hC2, hO, INV_put hI (by omega) (by omega) (by omega) hPT, INV_put hJ (by omega) (by omega) (by omega) hPT2, REL_put hI hJ hR (by omega), by omega, by omega, by omega⟩
set_option maxHeartbeats 4000000 in
set_option maxRecDepth 100000 in
theorem st_behind {p : Program} {e : Env} {s : State} {m : MethodId} {below : List Frame} {meth : Method} {c : Code} (l : Launch) (hfl : l.stackTraces = false) {D : va_G} {cI : ClassId} {base st : Nat} {Z : Nat → Nat} {x0 x1 x2 x5 x6 x7 z0 z1 z2 z5 z6 z7 pp : Nat} {z : Int}
    (B : bd_At p s m ([.ref x0, .ref z0, .ref pp, .int (iI (z))] : List Value).toArray meth c cL_step 11 (some .boolean) wsL_step RL) (hSW0 : SW D cI base st Z s s.heap) (hDJ : DJ base x0 x1 x2 x5 x6 x7 z0 z1 z2 z5 z6 z7 pp) (hnc1 : va_Nc "java/lang/IllegalArgumentException" "java/lang/IllegalStateException" s) (hnc2 : va_Nc "java/lang/IllegalArgumentException" "java/lang/IndexOutOfBoundsException" s) (hS : va_S (mS x0 x1 x2 x5 x6 x7 z0 z1 z2 z5 z6 z7 pp) s.heap s.heap [])
    {n c1 M1 c2 M2 : Int} {F G SP RF RC F2 G2 SP2 RF2 RC2 PN : Int → Int} (hC : CW D cI base x0 x1 x2 x5 x6 x7 n c1 M1 F G SP RF RC s.heap) (hC2 : CW D cI base z0 z1 z2 z5 z6 z7 n c2 M2 F2 G2 SP2 RF2 RC2 s.heap) (hO : OP D cI pp PN s.heap) (hI : INV n c1 F G RF) (hJ : INV n c2 F2 G2 RF2) (hR : REL n F F2 RF RF2 RC RC2 PN) {k1 k2 : Int} (hn1 : n ≤ c1) (hk1 : c1 ≤ k1 ∧ k1 < 60) (hk2 : c2 ≤ k2 ∧ k2 < 200)
    {kd w : Int} {v : Int} (hv : 0 ≤ v ∧ v < n) {ls : Array Slot} (hl : lv_has ls 11 [(0, .ref x0), (1, .ref z0), (2, .ref pp), (3, .int (iI (z))), (4, .int (iI (n))), (5, .int (iI (kd))), (6, .int (iI (w))), (7, .int (iI (F v)))]) : W p l e ({ frames := 8, cells := 2, slots := 12, locals := 186 } : Room) s m ([.ref x0, .ref z0, .ref pp, .int (iI (z))] : List Value).toArray below meth c s.heap [] 0 0 (MQ below (mu_Q (some (.int (iI 1))) (fun H => RW D cI base x0 x1 x2 x5 x6 x7 z0 z1 z2 z5 z6 z7 pp (k1 + 1) (k2 + 1) H) (mS x0 x1 x2 x5 x6 x7 z0 z1 z2 z5 z6 z7 pp)) ([.ref x0, .ref z0, .ref pp, .int (iI (z))] : List Value).toArray s 2 12 (mS x0 x1 x2 x5 x6 x7 z0 z1 z2 z5 z6 z7 pp)) (F0 m 113 ls []) := by
  obtain ⟨hx, hb, hml, hr, hts, hown, hlocks⟩ := B
  have hK := hSW0.1
  obtain ⟨hn, hcm, hF, hfc, hFi, hG, hs, hRI⟩ := id hI
  obtain ⟨_, hcm2, hF2, hfc2, hFi2, hG2, hs2, hRI2⟩ := id hJ
  have hbl : base ≤ s.heap.size := CW_lt hC
  have hAb : ∀ q, (mS x0 x1 x2 x5 x6 x7 z0 z1 z2 z5 z6 z7 pp) q → base ≤ q := fun q h => by rcases h with h | h | h; exact CW_b hC q h; exact CW_b hC2 q h; exact h ▸ hDJ.2.2.2
  have hSW := hSW0
  have hFv := hF v hv.1 hv.2
  have hfcv := hfc v hv.1 hv.2
  have hF2v := hF2 v hv.1 hv.2
  have hRFX := INV_RF hI
  have hRFZ := INV_RF hJ
  obtain ⟨Ga, dm, SPa, hPT⟩ := PT_ex G n (v + 1) SP
  obtain ⟨Gb, dn, SPb, hPT2⟩ := PT_ex G2 n (v + 1) SP2
  refine lv_aload_n hx hb dL_step_113 rfl (lv_at hl 0 rfl) ?_
  refine pv_iconst hx hb dL_step_114 ?_
  refine lv_iload hx hb dL_step_115 (lv_at hl 7 rfl) ?_
  refine pv_iconst hx hb dL_step_117 ?_
  refine wr_call (As := [.ref x0, .int (iI (1)), .int (iI (F v)), .int (iI (0))]) (rest := []) CP_mv ⟨hx, hb, hml, hown, hts⟩ (d_putBehind l D cI base st Z x0 x1 x2 x5 x6 x7 (by omega) hF hG hs (by omega) (F v) (by omega) v (PL_k hI hv) hv.1 Ga dm SPa hPT 0) (vx_cwSW 4 hts gL_step_L_done rfl rfl rfl (by decide +kernel) ⟨(Nat.le_of_ble_eq_true rfl), (Nat.le_of_ble_eq_true rfl)⟩) ⟨hSW, hC⟩ rfl rfl hl.1 (Nat.le_of_ble_eq_true rfl) dL_step_118 ⟨(Nat.le_of_ble_eq_true rfl), (Nat.le_of_ble_eq_true rfl)⟩ hS (fun q h => Or.inl h) (fun H locs hP2 hz hk hS => ?_)
  have hC : CW D cI base x0 x1 x2 x5 x6 x7 (n + 1) (c1 + 1) (M1 + dm) (insF F (v + 1) c1) Ga SPa RF RC H := hP2
  have hC2 := CW_fr hC2 hk (fun q h y => hDJ.1 q y h)
  have hO := OP_fr hO hk hDJ.2.1
  have hSW := hSW0.behind hbl hAb hS
  refine lv_istore (lv' := [(8, .int (iI (c1))), (0, .ref x0), (1, .ref z0), (2, .ref pp), (3, .int (iI (z))), (4, .int (iI (n))), (5, .int (iI (kd))), (6, .int (iI (w))), (7, .int (iI (F v)))]) hx hb dL_step_121 hl (by decide) rfl (fun ls hl => ?_)
  refine lv_aload_n hx hb dL_step_123 rfl (lv_at hl 2 rfl) ?_
  refine pv_iconst hx hb dL_step_124 ?_
  refine lv_aload_n hx hb dL_step_125 rfl (lv_at hl 3 rfl) ?_
  refine lv_iload hx hb dL_step_126 (lv_at hl 8 rfl) ?_
  obtain ⟨pf, hAp, hGP⟩ := id hO
  refine pv_ald1 (v := F2 v) hx hb hK hGP (show 0 ≤ F v ∧ F v < 64 by omega) (by decide) ((hAp _ (by omega) (by omega)).trans (congrArg iI ((hR.1 v hv.1 hv.2).symm))) dL_step_128 ?_
  refine pv_iconst hx hb dL_step_129 ?_
  refine wr_call (As := [.ref z0, .int (iI (1)), .int (iI (F2 v)), .int (iI (0))]) (rest := []) CP_mv ⟨hx, hb, hml, hown, hts⟩ (d_putBehind l D cI base st Z z0 z1 z2 z5 z6 z7 (by omega) hF2 hG2 hs2 (by omega) (F2 v) (by omega) v (PL_k hJ hv) hv.1 Gb dn SPb hPT2 0) (vx_cwSW 4 hts gL_step_L_done rfl rfl rfl (by decide +kernel) ⟨(Nat.le_of_ble_eq_true rfl), (Nat.le_of_ble_eq_true rfl)⟩) ⟨hSW, hC2⟩ rfl rfl hl.1 (Nat.le_of_ble_eq_true rfl) dL_step_130 ⟨(Nat.le_of_ble_eq_true rfl), (Nat.le_of_ble_eq_true rfl)⟩ hS (fun q h => Or.inr (Or.inl h)) (fun H locs hP2 hz hk hS => ?_)
  have hC2 : CW D cI base z0 z1 z2 z5 z6 z7 (n + 1) (c2 + 1) (M2 + dn) (insF F2 (v + 1) c2) Gb SPb RF2 RC2 H := hP2
  have hC := CW_fr hC hk (fun q h y => hDJ.1 q h y)
  have hO := OP_fr hO hk hDJ.2.2.1
  have hSW := hSW0.behind hbl hAb hS
  refine lv_istore (lv' := [(9, .int (iI (c2))), (8, .int (iI (c1))), (0, .ref x0), (1, .ref z0), (2, .ref pp), (3, .int (iI (z))), (4, .int (iI (n))), (5, .int (iI (kd))), (6, .int (iI (w))), (7, .int (iI (F v)))]) hx hb dL_step_133 hl (by decide) rfl (fun ls hl => ?_)
  refine lv_iload hx hb dL_step_135 (lv_at hl 1 rfl) ?_
  refine pv_if_lt (tgt := 146) hx hb dL_step_137 (by decide) (by omega) (fun c9 => False.elim (by omega)) (fun _ => ?_)
  refine lv_aload_n hx hb dL_step_140 rfl (lv_at hl 4 rfl) ?_
  refine lv_iload hx hb dL_step_141 (lv_at hl 1 rfl) ?_
  refine lv_iload hx hb dL_step_143 (lv_at hl 0 rfl) ?_
  obtain ⟨pf, hAp, hGP⟩ := hO
  refine pv_ast1 (i := c1) (v := c2) hx hb hK hGP hS (Or.inr (Or.inr rfl)) (show 0 ≤ c1 ∧ c1 < 64 by omega) (by decide) dL_step_145 (fun H locs hGP hz hk hS => ?_)
  have hO : OP D cI pp (uI PN c1 c2) H := ⟨_, AR_up hAp (by omega), hGP⟩
  have hC := CW_fr (A := fun q => q = pp) hC hk (fun q h y => hDJ.2.1 (y ▸ h))
  have hC2 := CW_fr (A := fun q => q = pp) hC2 hk (fun q h y => hDJ.2.2.1 (y ▸ h))
  refine lv_iload hx hb dL_step_146 (lv_at hl 1 rfl) ?_
  refine pv_if_ge (tgt := 155) hx hb dL_step_148 (by decide) (by omega) (fun _ => ?_) (fun c9 => False.elim (by omega))
  refine pv_iconst hx hb dL_step_155 ?_
  refine lv_iload hx hb dL_step_156 (lv_at hl 0 rfl) ?_
  refine pv_if_ge (tgt := 165) hx hb dL_step_158 (by decide) (by omega) (fun _ => ?_) (fun c9 => False.elim (by omega))
  refine pv_iconst hx hb dL_step_165 ?_
  refine pv_icmp_ne (tgt := 173) hx hb dL_step_166 (by decide) (by omega) (fun c9 => False.elim (by omega)) (fun _ => ?_)
  refine pv_iconst hx hb dL_step_169 ?_
  refine lv_goto (tgt := 174) hx hb dL_step_170 (by decide) ?_
  refine W.widen (k := 2) (n := 12) (by omega) (by omega) ?_
  exact nw_zret hx hb hr hlocks hS dL_step_174 rfl (Or.inr rfl) ⟨_, _, _, _, _, _, _, _, _, _, _, _, _, _, _, _, hC, hC2, hO, INV_put hI (by omega) (by omega) (by omega) hPT, INV_put hJ (by omega) (by omega) (by omega) hPT2, REL_put hI hJ hR (by omega), by omega, by omega, by omega⟩
set_option maxHeartbeats 4000000 in
set_option maxRecDepth 100000 in
theorem st_take {p : Program} {e : Env} {s : State} {m : MethodId} {below : List Frame} {meth : Method} {c : Code} (l : Launch) (hfl : l.stackTraces = false) {D : va_G} {cI : ClassId} {base st : Nat} {Z : Nat → Nat} {x0 x1 x2 x5 x6 x7 z0 z1 z2 z5 z6 z7 pp : Nat} {z : Int}
    (B : bd_At p s m ([.ref x0, .ref z0, .ref pp, .int (iI (z))] : List Value).toArray meth c cL_step 11 (some .boolean) wsL_step RL) (hSW0 : SW D cI base st Z s s.heap) (hDJ : DJ base x0 x1 x2 x5 x6 x7 z0 z1 z2 z5 z6 z7 pp) (hnc1 : va_Nc "java/lang/IllegalArgumentException" "java/lang/IllegalStateException" s) (hnc2 : va_Nc "java/lang/IllegalArgumentException" "java/lang/IndexOutOfBoundsException" s) (hS : va_S (mS x0 x1 x2 x5 x6 x7 z0 z1 z2 z5 z6 z7 pp) s.heap s.heap [])
    {n c1 M1 c2 M2 : Int} {F G SP RF RC F2 G2 SP2 RF2 RC2 PN : Int → Int} (hC : CW D cI base x0 x1 x2 x5 x6 x7 n c1 M1 F G SP RF RC s.heap) (hC2 : CW D cI base z0 z1 z2 z5 z6 z7 n c2 M2 F2 G2 SP2 RF2 RC2 s.heap) (hO : OP D cI pp PN s.heap) (hI : INV n c1 F G RF) (hJ : INV n c2 F2 G2 RF2) (hR : REL n F F2 RF RF2 RC RC2 PN) {k1 k2 : Int} (hn1 : n ≤ c1) (hk1 : c1 ≤ k1 ∧ k1 < 60) (hk2 : c2 ≤ k2 ∧ k2 < 200)
    {kd w : Int} {v : Int} (hv : 0 ≤ v ∧ v < n) {ls : Array Slot} (hl : lv_has ls 11 [(0, .ref x0), (1, .ref z0), (2, .ref pp), (3, .int (iI (z))), (4, .int (iI (n))), (5, .int (iI (kd))), (6, .int (iI (w))), (7, .int (iI (F v)))]) : W p l e ({ frames := 8, cells := 2, slots := 12, locals := 186 } : Room) s m ([.ref x0, .ref z0, .ref pp, .int (iI (z))] : List Value).toArray below meth c s.heap [] 0 0 (MQ below (mu_Q (some (.int (iI 1))) (fun H => RW D cI base x0 x1 x2 x5 x6 x7 z0 z1 z2 z5 z6 z7 pp (k1 + 1) (k2 + 1) H) (mS x0 x1 x2 x5 x6 x7 z0 z1 z2 z5 z6 z7 pp)) ([.ref x0, .ref z0, .ref pp, .int (iI (z))] : List Value).toArray s 2 12 (mS x0 x1 x2 x5 x6 x7 z0 z1 z2 z5 z6 z7 pp)) (F0 m 182 ls []) := by
  obtain ⟨hx, hb, hml, hr, hts, hown, hlocks⟩ := B
  have hK := hSW0.1
  obtain ⟨hn, hcm, hF, hfc, hFi, hG, hs, hRI⟩ := id hI
  obtain ⟨_, hcm2, hF2, hfc2, hFi2, hG2, hs2, hRI2⟩ := id hJ
  have hbl : base ≤ s.heap.size := CW_lt hC
  have hAb : ∀ q, (mS x0 x1 x2 x5 x6 x7 z0 z1 z2 z5 z6 z7 pp) q → base ≤ q := fun q h => by rcases h with h | h | h; exact CW_b hC q h; exact CW_b hC2 q h; exact h ▸ hDJ.2.2.2
  have hSW := hSW0
  have hFv := hF v hv.1 hv.2
  have hfcv := hfc v hv.1 hv.2
  have hF2v := hF2 v hv.1 hv.2
  have hRFX := INV_RF hI
  have hRFZ := INV_RF hJ
  refine lv_aload_n hx hb dL_step_182 rfl (lv_at hl 0 rfl) ?_
  refine pv_iconst hx hb dL_step_183 ?_
  refine lv_iload hx hb dL_step_184 (lv_at hl 7 rfl) ?_
  refine pv_iconst hx hb dL_step_186 ?_
  refine wr_call (As := [.ref x0, .int (iI (2)), .int (iI (F v)), .int (iI (0))]) (rest := []) CP_mv ⟨hx, hb, hml, hown, hts⟩ (d_takeOut l D cI base st Z x0 x1 x2 x5 x6 x7 hn hF hRFX (F v) (by omega) v (PL_k hI hv) hv.1 0) (vx_cwSW 4 hts gL_step_L_done rfl rfl rfl (by decide +kernel) ⟨(Nat.le_of_ble_eq_true rfl), (Nat.le_of_ble_eq_true rfl)⟩) ⟨hSW, hC⟩ rfl rfl hl.1 (Nat.le_of_ble_eq_true rfl) dL_step_187 ⟨(Nat.le_of_ble_eq_true rfl), (Nat.le_of_ble_eq_true rfl)⟩ hS (fun q h => Or.inl h) (fun H locs hP2 hz hk hS => ?_)
  have hC : CW D cI base x0 x1 x2 x5 x6 x7 (n - 1) c1 M1 (remF F v) (remF G v) SP (sendF RF (F v) (fa F n (v + 1))) RC H := hP2
  have hC2 := CW_fr hC2 hk (fun q h y => hDJ.1 q y h)
  have hO := OP_fr hO hk hDJ.2.1
  have hSW := hSW0.behind hbl hAb hS
  refine lv_aload_n hx hb dL_step_190 rfl (lv_at hl 1 rfl) ?_
  refine pv_iconst hx hb dL_step_191 ?_
  refine lv_aload_n hx hb dL_step_192 rfl (lv_at hl 2 rfl) ?_
  refine lv_iload hx hb dL_step_193 (lv_at hl 7 rfl) ?_
  obtain ⟨pf, hAp, hGP⟩ := id hO
  refine pv_ald1 (v := F2 v) hx hb hK hGP (show 0 ≤ F v ∧ F v < 64 by omega) (by decide) ((hAp _ (by omega) (by omega)).trans (congrArg iI ((hR.1 v hv.1 hv.2).symm))) dL_step_195 ?_
  refine pv_iconst hx hb dL_step_196 ?_
  refine wr_call (As := [.ref z0, .int (iI (2)), .int (iI (F2 v)), .int (iI (0))]) (rest := [.int (iI (n - 1))]) CP_mv ⟨hx, hb, hml, hown, hts⟩ (d_takeOut l D cI base st Z z0 z1 z2 z5 z6 z7 hn hF2 hRFZ (F2 v) (by omega) v (PL_k hJ hv) hv.1 0) (vx_cwSW 4 hts gL_step_L_done rfl rfl rfl (by decide +kernel) ⟨(Nat.le_of_ble_eq_true rfl), (Nat.le_of_ble_eq_true rfl)⟩) ⟨hSW, hC2⟩ rfl rfl hl.1 (Nat.le_of_ble_eq_true rfl) dL_step_197 ⟨(Nat.le_of_ble_eq_true rfl), (Nat.le_of_ble_eq_true rfl)⟩ hS (fun q h => Or.inr (Or.inl h)) (fun H locs hP2 hz hk hS => ?_)
  have hC2 : CW D cI base z0 z1 z2 z5 z6 z7 (n - 1) c2 M2 (remF F2 v) (remF G2 v) SP2 (sendF RF2 (F2 v) (fa F2 n (v + 1))) RC2 H := hP2
  have hC := CW_fr hC hk (fun q h y => hDJ.1 q h y)
  have hO := OP_fr hO hk hDJ.2.2.1
  have hSW := hSW0.behind hbl hAb hS
  refine pv_nesame (tgt := 207) hx hb dL_step_200 (by decide) (rfl) ?_
  refine pv_iconst hx hb dL_step_203 ?_
  refine lv_goto (tgt := 208) hx hb dL_step_204 (by decide) ?_
  refine W.widen (k := 2) (n := 12) (by omega) (by omega) ?_
  exact nw_zret hx hb hr hlocks hS dL_step_208 rfl (Or.inr rfl) ⟨_, _, _, _, _, _, _, _, _, _, _, _, _, _, _, _, hC, hC2, hO, INV_take hI ⟨hv.1, hv.2, rfl⟩, INV_take hJ ⟨hv.1, hv.2, rfl⟩, REL_take hI hJ hR hv, by omega, by omega, by omega⟩
set_option maxHeartbeats 4000000 in
set_option maxRecDepth 100000 in
theorem st_carry {p : Program} {e : Env} {s : State} {m : MethodId} {below : List Frame} {meth : Method} {c : Code} (l : Launch) (hfl : l.stackTraces = false) {D : va_G} {cI : ClassId} {base st : Nat} {Z : Nat → Nat} {x0 x1 x2 x5 x6 x7 z0 z1 z2 z5 z6 z7 pp : Nat} {z : Int}
    (B : bd_At p s m ([.ref x0, .ref z0, .ref pp, .int (iI (z))] : List Value).toArray meth c cL_step 11 (some .boolean) wsL_step RL) (hSW0 : SW D cI base st Z s s.heap) (hDJ : DJ base x0 x1 x2 x5 x6 x7 z0 z1 z2 z5 z6 z7 pp) (hnc1 : va_Nc "java/lang/IllegalArgumentException" "java/lang/IllegalStateException" s) (hnc2 : va_Nc "java/lang/IllegalArgumentException" "java/lang/IndexOutOfBoundsException" s) (hS : va_S (mS x0 x1 x2 x5 x6 x7 z0 z1 z2 z5 z6 z7 pp) s.heap s.heap [])
    {n c1 M1 c2 M2 : Int} {F G SP RF RC F2 G2 SP2 RF2 RC2 PN : Int → Int} (hC : CW D cI base x0 x1 x2 x5 x6 x7 n c1 M1 F G SP RF RC s.heap) (hC2 : CW D cI base z0 z1 z2 z5 z6 z7 n c2 M2 F2 G2 SP2 RF2 RC2 s.heap) (hO : OP D cI pp PN s.heap) (hI : INV n c1 F G RF) (hJ : INV n c2 F2 G2 RF2) (hR : REL n F F2 RF RF2 RC RC2 PN) {k1 k2 : Int} (hn1 : n ≤ c1) (hk1 : c1 ≤ k1 ∧ k1 < 60) (hk2 : c2 ≤ k2 ∧ k2 < 200)
    {kd w : Int} {v : Int} (hv : 0 ≤ v ∧ v < n) (hw : 0 ≤ w ∧ w ≤ 2147483647) (hvb : 0 ≤ w / 64 % n ∧ w / 64 % n < n) {ls : Array Slot} (hl : lv_has ls 11 [(0, .ref x0), (1, .ref z0), (2, .ref pp), (3, .int (iI (z))), (4, .int (iI (n))), (5, .int (iI (kd))), (6, .int (iI (w))), (7, .int (iI (F v)))]) : W p l e ({ frames := 8, cells := 2, slots := 12, locals := 186 } : Room) s m ([.ref x0, .ref z0, .ref pp, .int (iI (z))] : List Value).toArray below meth c s.heap [] 0 0 (MQ below (mu_Q (some (.int (iI 1))) (fun H => RW D cI base x0 x1 x2 x5 x6 x7 z0 z1 z2 z5 z6 z7 pp (k1 + 1) (k2 + 1) H) (mS x0 x1 x2 x5 x6 x7 z0 z1 z2 z5 z6 z7 pp)) ([.ref x0, .ref z0, .ref pp, .int (iI (z))] : List Value).toArray s 2 12 (mS x0 x1 x2 x5 x6 x7 z0 z1 z2 z5 z6 z7 pp)) (F0 m 216 ls []) := by
  obtain ⟨hx, hb, hml, hr, hts, hown, hlocks⟩ := B
  have hK := hSW0.1
  obtain ⟨hn, hcm, hF, hfc, hFi, hG, hs, hRI⟩ := id hI
  obtain ⟨_, hcm2, hF2, hfc2, hFi2, hG2, hs2, hRI2⟩ := id hJ
  have hbl : base ≤ s.heap.size := CW_lt hC
  have hAb : ∀ q, (mS x0 x1 x2 x5 x6 x7 z0 z1 z2 z5 z6 z7 pp) q → base ≤ q := fun q h => by rcases h with h | h | h; exact CW_b hC q h; exact CW_b hC2 q h; exact h ▸ hDJ.2.2.2
  have hSW := hSW0
  have hFv := hF v hv.1 hv.2
  have hfcv := hfc v hv.1 hv.2
  have hF2v := hF2 v hv.1 hv.2
  have hRFX := INV_RF hI
  have hRFZ := INV_RF hJ
  obtain ⟨y, hy⟩ : ∃ y, y = w / 64 % n := ⟨_, rfl⟩
  rw [← hy] at hvb
  refine lv_aload_n hx hb dL_step_216 rfl (lv_at hl 0 rfl) ?_
  refine lv_iload hx hb dL_step_217 (lv_at hl 6 rfl) ?_
  refine pv_bipush hx hb dL_step_219 (by decide +kernel) ?_
  refine pv_idiv hx hb dL_step_221 (by omega) (by omega) ?_
  refine lv_iload hx hb dL_step_222 (lv_at hl 4 rfl) ?_
  refine pv_irem hx hb dL_step_224 (by omega) (by omega) ?_
  rw [show iI ((w / 64) % n) = iI (y) from congrArg iI (hy.symm)]
  have hFy := hF y hvb.1 hvb.2
  have hfcy := hfc y hvb.1 hvb.2
  have hF2y := hF2 y hvb.1 hvb.2
  refine pu_callS (v := F y) (As := [.ref x0, .int (iI (y))]) (rest := []) CP_mv ⟨hx, hb, hml, hown, hts⟩ (f_at l D cI base st Z x0 x1 x2 x5 x6 x7 hI y hvb) (va_cwS 2 hts gL_step_L_folderAt rfl rfl rfl (by decide +kernel) ⟨(Nat.le_of_ble_eq_true rfl), (Nat.le_of_ble_eq_true rfl)⟩) ⟨hSW, hC⟩ rfl rfl hl.1 (Nat.le_of_ble_eq_true rfl) dL_step_225 ⟨(Nat.le_of_ble_eq_true rfl), (Nat.le_of_ble_eq_true rfl)⟩ ?_
  refine lv_istore (lv' := [(8, .int (iI (F y))), (0, .ref x0), (1, .ref z0), (2, .ref pp), (3, .int (iI (z))), (4, .int (iI (n))), (5, .int (iI (kd))), (6, .int (iI (w))), (7, .int (iI (F v)))]) hx hb dL_step_228 hl (by decide) rfl (fun ls hl => ?_)
  refine lv_aload_n hx hb dL_step_230 rfl (lv_at hl 1 rfl) ?_
  refine pv_iconst hx hb dL_step_231 ?_
  refine lv_iload hx hb dL_step_232 (lv_at hl 8 rfl) ?_
  refine lv_iload hx hb dL_step_234 (lv_at hl 0 rfl) ?_
  by_cases hvy : v = y
  · subst hvy
    refine wr_call (As := [.ref x0, .int (iI (3)), .int (iI (F v)), .int (iI (F v))]) (rest := []) DP_mv ⟨hx, hb, hml, hown, hts⟩ (d_carry3 l D cI base st Z x0 x1 x2 x5 x6 x7 hfl hn hF (F v) (by omega) v (PL_k hI hv) hv.1) (vx_cwSW 4 hts gL_step_L_done rfl rfl rfl (by decide +kernel) ⟨(Nat.le_of_ble_eq_true rfl), (Nat.le_of_ble_eq_true rfl)⟩) ⟨⟨hSW, hC⟩, hnc1, hnc2⟩ rfl rfl hl.1 (Nat.le_of_ble_eq_true rfl) dL_step_236 ⟨(Nat.le_of_ble_eq_true rfl), (Nat.le_of_ble_eq_true rfl)⟩ hS (fun q h => Or.inl h) (fun H locs hP2 hz hk hS => ?_)
    have hC : CW D cI base x0 x1 x2 x5 x6 x7 n c1 M1 F G SP RF RC H := hP2
    have hC2 := CW_fr hC2 hk (fun q h y => hDJ.1 q y h)
    have hO := OP_fr hO hk hDJ.2.1
    have hSW := hSW0.behind hbl hAb hS
    refine lv_istore (lv' := [(9, .int (iI (-60))), (8, .int (iI (F v))), (0, .ref x0), (1, .ref z0), (2, .ref pp), (3, .int (iI (z))), (4, .int (iI (n))), (5, .int (iI (kd))), (6, .int (iI (w))), (7, .int (iI (F v)))]) hx hb dL_step_239 hl (by decide) rfl (fun ls hl => ?_)
    refine lv_aload_n hx hb dL_step_241 rfl (lv_at hl 3 rfl) ?_
    refine pv_iconst hx hb dL_step_242 ?_
    refine lv_aload_n hx hb dL_step_243 rfl (lv_at hl 4 rfl) ?_
    refine lv_iload hx hb dL_step_244 (lv_at hl 9 rfl) ?_
    obtain ⟨pf, hAp, hGP⟩ := id hO
    refine pv_ald1 (v := F2 v) hx hb hK hGP (show 0 ≤ F v ∧ F v < 64 by omega) (by decide) ((hAp _ (by omega) (by omega)).trans (congrArg iI ((hR.1 v hv.1 hv.2).symm))) dL_step_246 ?_
    refine lv_aload_n hx hb dL_step_247 rfl (lv_at hl 4 rfl) ?_
    refine lv_iload hx hb dL_step_248 (lv_at hl 1 rfl) ?_
    obtain ⟨pf, hAp, hGP⟩ := id hO
    refine pv_ald1 (v := F2 v) hx hb hK hGP (show 0 ≤ F v ∧ F v < 64 by omega) (by decide) ((hAp _ (by omega) (by omega)).trans (congrArg iI ((hR.1 v hv.1 hv.2).symm))) dL_step_250 ?_
    refine wr_call (As := [.ref z0, .int (iI (3)), .int (iI (F2 v)), .int (iI (F2 v))]) (rest := []) DP_mv ⟨hx, hb, hml, hown, hts⟩ (d_carry3 l D cI base st Z z0 z1 z2 z5 z6 z7 hfl hn hF2 (F2 v) (by omega) v (PL_k hJ hv) hv.1) (vx_cwSW 4 hts gL_step_L_done rfl rfl rfl (by decide +kernel) ⟨(Nat.le_of_ble_eq_true rfl), (Nat.le_of_ble_eq_true rfl)⟩) ⟨⟨hSW, hC2⟩, hnc1, hnc2⟩ rfl rfl hl.1 (Nat.le_of_ble_eq_true rfl) dL_step_251 ⟨(Nat.le_of_ble_eq_true rfl), (Nat.le_of_ble_eq_true rfl)⟩ hS (fun q h => Or.inr (Or.inl h)) (fun H locs hP2 hz hk hS => ?_)
    have hC2 : CW D cI base z0 z1 z2 z5 z6 z7 n c2 M2 F2 G2 SP2 RF2 RC2 H := hP2
    have hC := CW_fr hC hk (fun q h y => hDJ.1 q h y)
    have hO := OP_fr hO hk hDJ.2.2.1
    have hSW := hSW0.behind hbl hAb hS
    refine lv_istore (lv' := [(10, .int (iI (-60))), (9, .int (iI (-60))), (8, .int (iI (F v))), (0, .ref x0), (1, .ref z0), (2, .ref pp), (3, .int (iI (z))), (4, .int (iI (n))), (5, .int (iI (kd))), (6, .int (iI (w))), (7, .int (iI (F v)))]) hx hb dL_step_254 hl (by decide) rfl (fun ls hl => ?_)
    refine lv_iload hx hb dL_step_256 (lv_at hl 1 rfl) ?_
    refine pv_if_ge (tgt := 265) hx hb dL_step_258 (by decide) (by omega) (fun c9 => False.elim (by omega)) (fun _ => ?_)
    refine pv_iconst hx hb dL_step_261 ?_
    refine lv_goto (tgt := 266) hx hb dL_step_262 (by decide) ?_
    refine lv_iload hx hb dL_step_266 (lv_at hl 0 rfl) ?_
    refine pv_if_ge (tgt := 275) hx hb dL_step_268 (by decide) (by omega) (fun c9 => False.elim (by omega)) (fun _ => ?_)
    refine pv_iconst hx hb dL_step_271 ?_
    refine lv_goto (tgt := 276) hx hb dL_step_272 (by decide) ?_
    refine pv_icmp_ne (tgt := 283) hx hb dL_step_276 (by decide) (by omega) (fun c9 => False.elim (by omega)) (fun _ => ?_)
    refine pv_iconst hx hb dL_step_279 ?_
    refine lv_goto (tgt := 284) hx hb dL_step_280 (by decide) ?_
    refine W.widen (k := 2) (n := 12) (by omega) (by omega) ?_
    exact nw_zret hx hb hr hlocks hS dL_step_284 rfl (Or.inr rfl) ⟨_, _, _, _, _, _, _, _, _, _, _, _, _, _, _, _, hC, hC2, hO, hI, hJ, hR, by omega, by omega, by omega⟩
  · obtain ⟨a1, a2, a3, a4, a5, a6, a7⟩ := carry_ok hI hv hvb hvy
    obtain ⟨b1, b2, b3, b4, b5, b6, b7⟩ := carry_ok hJ hv hvb hvy
    have hq := cq_rg hv hvb hvy
    obtain ⟨Ga, dm, SPa, hPT⟩ := PT_ex (remF G v) (n - 1) (cq v y + 1) SP
    obtain ⟨Gb, dn, SPb, hPT2⟩ := PT_ex (remF G2 v) (n - 1) (cq v y + 1) SP2
    have hI2 := INV_carry hI ⟨hv.1, hv.2, rfl⟩ (show 0 ≤ cq v y + 1 ∧ cq v y + 1 ≤ n - 1 by omega) hPT
    have hJ2 := INV_carry hJ ⟨hv.1, hv.2, rfl⟩ (show 0 ≤ cq v y + 1 ∧ cq v y + 1 ≤ n - 1 by omega) hPT2
    have hGq := hI2.2.2.2.2.2.1 (cq v y + 1) (by omega) (by omega)
    have hGq2 := hJ2.2.2.2.2.2.1 (cq v y + 1) (by omega) (by omega)
    refine wr_call (As := [.ref x0, .int (iI (3)), .int (iI (F v)), .int (iI (F y))]) (rest := []) CP_mv ⟨hx, hb, hml, hown, hts⟩ (d_carry l D cI base st Z x0 x1 x2 x5 x6 x7 hn hF hG hs (F v) (by omega) v (PL_k hI hv) hv.1 (F y) (by omega) y (PL_k hI hvb) hvb.1 a1 (cq v y) a2 hq.1 a3 a4 a5 Ga dm SPa hPT a6 a7) (vx_cwSW 4 hts gL_step_L_done rfl rfl rfl (by decide +kernel) ⟨(Nat.le_of_ble_eq_true rfl), (Nat.le_of_ble_eq_true rfl)⟩) ⟨hSW, hC⟩ rfl rfl hl.1 (Nat.le_of_ble_eq_true rfl) dL_step_236 ⟨(Nat.le_of_ble_eq_true rfl), (Nat.le_of_ble_eq_true rfl)⟩ hS (fun q h => Or.inl h) (fun H locs hP2 hz hk hS => ?_)
    have hC : CW D cI base x0 x1 x2 x5 x6 x7 (n - 1 + 1) c1 (M1 + dm) (insF (remF F v) (cq v y + 1) (F v)) Ga SPa RF RC H := hP2
    have hC2 := CW_fr hC2 hk (fun q h y => hDJ.1 q y h)
    have hO := OP_fr hO hk hDJ.2.1
    have hSW := hSW0.behind hbl hAb hS
    refine lv_istore (lv' := [(9, .int (iI (Ga (cq v y + 1)))), (8, .int (iI (F y))), (0, .ref x0), (1, .ref z0), (2, .ref pp), (3, .int (iI (z))), (4, .int (iI (n))), (5, .int (iI (kd))), (6, .int (iI (w))), (7, .int (iI (F v)))]) hx hb dL_step_239 hl (by decide) rfl (fun ls hl => ?_)
    refine lv_aload_n hx hb dL_step_241 rfl (lv_at hl 3 rfl) ?_
    refine pv_iconst hx hb dL_step_242 ?_
    refine lv_aload_n hx hb dL_step_243 rfl (lv_at hl 4 rfl) ?_
    refine lv_iload hx hb dL_step_244 (lv_at hl 9 rfl) ?_
    obtain ⟨pf, hAp, hGP⟩ := id hO
    refine pv_ald1 (v := F2 v) hx hb hK hGP (show 0 ≤ F v ∧ F v < 64 by omega) (by decide) ((hAp _ (by omega) (by omega)).trans (congrArg iI ((hR.1 v hv.1 hv.2).symm))) dL_step_246 ?_
    refine lv_aload_n hx hb dL_step_247 rfl (lv_at hl 4 rfl) ?_
    refine lv_iload hx hb dL_step_248 (lv_at hl 1 rfl) ?_
    obtain ⟨pf, hAp, hGP⟩ := id hO
    refine pv_ald1 (v := F2 y) hx hb hK hGP (show 0 ≤ F y ∧ F y < 64 by omega) (by decide) ((hAp _ (by omega) (by omega)).trans (congrArg iI ((hR.1 y hvb.1 hvb.2).symm))) dL_step_250 ?_
    refine wr_call (As := [.ref z0, .int (iI (3)), .int (iI (F2 v)), .int (iI (F2 y))]) (rest := []) CP_mv ⟨hx, hb, hml, hown, hts⟩ (d_carry l D cI base st Z z0 z1 z2 z5 z6 z7 hn hF2 hG2 hs2 (F2 v) (by omega) v (PL_k hJ hv) hv.1 (F2 y) (by omega) y (PL_k hJ hvb) hvb.1 b1 (cq v y) b2 hq.1 b3 b4 b5 Gb dn SPb hPT2 b6 b7) (vx_cwSW 4 hts gL_step_L_done rfl rfl rfl (by decide +kernel) ⟨(Nat.le_of_ble_eq_true rfl), (Nat.le_of_ble_eq_true rfl)⟩) ⟨hSW, hC2⟩ rfl rfl hl.1 (Nat.le_of_ble_eq_true rfl) dL_step_251 ⟨(Nat.le_of_ble_eq_true rfl), (Nat.le_of_ble_eq_true rfl)⟩ hS (fun q h => Or.inr (Or.inl h)) (fun H locs hP2 hz hk hS => ?_)
    have hC2 : CW D cI base z0 z1 z2 z5 z6 z7 (n - 1 + 1) c2 (M2 + dn) (insF (remF F2 v) (cq v y + 1) (F2 v)) Gb SPb RF2 RC2 H := hP2
    have hC := CW_fr hC hk (fun q h y => hDJ.1 q h y)
    have hO := OP_fr hO hk hDJ.2.2.1
    have hSW := hSW0.behind hbl hAb hS
    refine lv_istore (lv' := [(10, .int (iI (Gb (cq v y + 1)))), (9, .int (iI (Ga (cq v y + 1)))), (8, .int (iI (F y))), (0, .ref x0), (1, .ref z0), (2, .ref pp), (3, .int (iI (z))), (4, .int (iI (n))), (5, .int (iI (kd))), (6, .int (iI (w))), (7, .int (iI (F v)))]) hx hb dL_step_254 hl (by decide) rfl (fun ls hl => ?_)
    refine lv_iload hx hb dL_step_256 (lv_at hl 1 rfl) ?_
    refine pv_if_ge (tgt := 265) hx hb dL_step_258 (by decide) (by omega) (fun _ => ?_) (fun c9 => False.elim (by omega))
    refine pv_iconst hx hb dL_step_265 ?_
    refine lv_iload hx hb dL_step_266 (lv_at hl 0 rfl) ?_
    refine pv_if_ge (tgt := 275) hx hb dL_step_268 (by decide) (by omega) (fun _ => ?_) (fun c9 => False.elim (by omega))
    refine pv_iconst hx hb dL_step_275 ?_
    refine pv_icmp_ne (tgt := 283) hx hb dL_step_276 (by decide) (by omega) (fun c9 => False.elim (by omega)) (fun _ => ?_)
    refine pv_iconst hx hb dL_step_279 ?_
    refine lv_goto (tgt := 284) hx hb dL_step_280 (by decide) ?_
    rw [show n - 1 + 1 = n by omega] at hC hC2
    refine W.widen (k := 2) (n := 12) (by omega) (by omega) ?_
    exact nw_zret hx hb hr hlocks hS dL_step_284 rfl (Or.inr rfl) ⟨_, _, _, _, _, _, _, _, _, _, _, _, _, _, _, _, hC, hC2, hO, hI2, hJ2, REL_carry hR hv (show 0 ≤ cq v y + 1 ∧ cq v y + 1 ≤ n - 1 by omega), by omega, by omega, by omega⟩
set_option maxHeartbeats 4000000 in
set_option maxRecDepth 100000 in
theorem st_seat {p : Program} {e : Env} {s : State} {m : MethodId} {below : List Frame} {meth : Method} {c : Code} (l : Launch) (hfl : l.stackTraces = false) {D : va_G} {cI : ClassId} {base st : Nat} {Z : Nat → Nat} {x0 x1 x2 x5 x6 x7 z0 z1 z2 z5 z6 z7 pp : Nat} {z : Int}
    (B : bd_At p s m ([.ref x0, .ref z0, .ref pp, .int (iI (z))] : List Value).toArray meth c cL_step 11 (some .boolean) wsL_step RL) (hSW0 : SW D cI base st Z s s.heap) (hDJ : DJ base x0 x1 x2 x5 x6 x7 z0 z1 z2 z5 z6 z7 pp) (hnc1 : va_Nc "java/lang/IllegalArgumentException" "java/lang/IllegalStateException" s) (hnc2 : va_Nc "java/lang/IllegalArgumentException" "java/lang/IndexOutOfBoundsException" s) (hS : va_S (mS x0 x1 x2 x5 x6 x7 z0 z1 z2 z5 z6 z7 pp) s.heap s.heap [])
    {n c1 M1 c2 M2 : Int} {F G SP RF RC F2 G2 SP2 RF2 RC2 PN : Int → Int} (hC : CW D cI base x0 x1 x2 x5 x6 x7 n c1 M1 F G SP RF RC s.heap) (hC2 : CW D cI base z0 z1 z2 z5 z6 z7 n c2 M2 F2 G2 SP2 RF2 RC2 s.heap) (hO : OP D cI pp PN s.heap) (hI : INV n c1 F G RF) (hJ : INV n c2 F2 G2 RF2) (hR : REL n F F2 RF RF2 RC RC2 PN) {k1 k2 : Int} (hn1 : n ≤ c1) (hk1 : c1 ≤ k1 ∧ k1 < 60) (hk2 : c2 ≤ k2 ∧ k2 < 200)
    {kd w : Int} {v : Int} (hv : 0 ≤ v ∧ v < n) (hw : 0 ≤ w ∧ w ≤ 2147483647) {ls : Array Slot} (hl : lv_has ls 11 [(0, .ref x0), (1, .ref z0), (2, .ref pp), (3, .int (iI (z))), (4, .int (iI (n))), (5, .int (iI (kd))), (6, .int (iI (w))), (7, .int (iI (F v)))]) : W p l e ({ frames := 8, cells := 2, slots := 12, locals := 186 } : Room) s m ([.ref x0, .ref z0, .ref pp, .int (iI (z))] : List Value).toArray below meth c s.heap [] 0 0 (MQ below (mu_Q (some (.int (iI 1))) (fun H => RW D cI base x0 x1 x2 x5 x6 x7 z0 z1 z2 z5 z6 z7 pp (k1 + 1) (k2 + 1) H) (mS x0 x1 x2 x5 x6 x7 z0 z1 z2 z5 z6 z7 pp)) ([.ref x0, .ref z0, .ref pp, .int (iI (z))] : List Value).toArray s 2 12 (mS x0 x1 x2 x5 x6 x7 z0 z1 z2 z5 z6 z7 pp)) (F0 m 292 ls []) := by
  obtain ⟨hx, hb, hml, hr, hts, hown, hlocks⟩ := B
  have hK := hSW0.1
  obtain ⟨hn, hcm, hF, hfc, hFi, hG, hs, hRI⟩ := id hI
  obtain ⟨_, hcm2, hF2, hfc2, hFi2, hG2, hs2, hRI2⟩ := id hJ
  have hbl : base ≤ s.heap.size := CW_lt hC
  have hAb : ∀ q, (mS x0 x1 x2 x5 x6 x7 z0 z1 z2 z5 z6 z7 pp) q → base ≤ q := fun q h => by rcases h with h | h | h; exact CW_b hC q h; exact CW_b hC2 q h; exact h ▸ hDJ.2.2.2
  have hSW := hSW0
  have hFv := hF v hv.1 hv.2
  have hfcv := hfc v hv.1 hv.2
  have hF2v := hF2 v hv.1 hv.2
  have hRFX := INV_RF hI
  have hRFZ := INV_RF hJ
  obtain ⟨u, hu⟩ : ∃ u, u = w % 4 := ⟨_, rfl⟩
  refine lv_aload_n hx hb dL_step_292 rfl (lv_at hl 0 rfl) ?_
  refine pv_iconst hx hb dL_step_293 ?_
  refine lv_iload hx hb dL_step_294 (lv_at hl 7 rfl) ?_
  refine lv_iload hx hb dL_step_296 (lv_at hl 6 rfl) ?_
  refine pv_iconst hx hb dL_step_298 ?_
  refine pv_irem hx hb dL_step_299 (by omega) (by omega) ?_
  rw [show iI (w % 4) = iI (u) from congrArg iI (hu.symm)]
  refine wr_call (As := [.ref x0, .int (iI (4)), .int (iI (F v)), .int (iI (u))]) (rest := []) CP_mv ⟨hx, hb, hml, hown, hts⟩ (d_seat l D cI base st Z x0 x1 x2 x5 x6 x7 hn hF hRFX u (by omega) (F v) (by omega) v (PL_k hI hv) hv.1) (vx_cwSW 4 hts gL_step_L_done rfl rfl rfl (by decide +kernel) ⟨(Nat.le_of_ble_eq_true rfl), (Nat.le_of_ble_eq_true rfl)⟩) ⟨hSW, hC⟩ rfl rfl hl.1 (Nat.le_of_ble_eq_true rfl) dL_step_300 ⟨(Nat.le_of_ble_eq_true rfl), (Nat.le_of_ble_eq_true rfl)⟩ hS (fun q h => Or.inl h) (fun H locs hP2 hz hk hS => ?_)
  have hC : CW D cI base x0 x1 x2 x5 x6 x7 n c1 M1 F G SP (uI RF u (F v)) RC H := hP2
  have hC2 := CW_fr hC2 hk (fun q h y => hDJ.1 q y h)
  have hO := OP_fr hO hk hDJ.2.1
  have hSW := hSW0.behind hbl hAb hS
  refine lv_aload_n hx hb dL_step_303 rfl (lv_at hl 1 rfl) ?_
  refine pv_iconst hx hb dL_step_304 ?_
  refine lv_aload_n hx hb dL_step_305 rfl (lv_at hl 2 rfl) ?_
  refine lv_iload hx hb dL_step_306 (lv_at hl 7 rfl) ?_
  obtain ⟨pf, hAp, hGP⟩ := id hO
  refine pv_ald1 (v := F2 v) hx hb hK hGP (show 0 ≤ F v ∧ F v < 64 by omega) (by decide) ((hAp _ (by omega) (by omega)).trans (congrArg iI ((hR.1 v hv.1 hv.2).symm))) dL_step_308 ?_
  refine lv_iload hx hb dL_step_309 (lv_at hl 6 rfl) ?_
  refine pv_iconst hx hb dL_step_311 ?_
  refine pv_irem hx hb dL_step_312 (by omega) (by omega) ?_
  rw [show iI (w % 4) = iI (u) from congrArg iI (hu.symm)]
  refine wr_call (As := [.ref z0, .int (iI (4)), .int (iI (F2 v)), .int (iI (u))]) (rest := [.int (iI (cn (fun k => decide (uI RF u (F v) k = F v)) 4))]) CP_mv ⟨hx, hb, hml, hown, hts⟩ (d_seat l D cI base st Z z0 z1 z2 z5 z6 z7 hn hF2 hRFZ u (by omega) (F2 v) (by omega) v (PL_k hJ hv) hv.1) (vx_cwSW 4 hts gL_step_L_done rfl rfl rfl (by decide +kernel) ⟨(Nat.le_of_ble_eq_true rfl), (Nat.le_of_ble_eq_true rfl)⟩) ⟨hSW, hC2⟩ rfl rfl hl.1 (Nat.le_of_ble_eq_true rfl) dL_step_313 ⟨(Nat.le_of_ble_eq_true rfl), (Nat.le_of_ble_eq_true rfl)⟩ hS (fun q h => Or.inr (Or.inl h)) (fun H locs hP2 hz hk hS => ?_)
  have hC2 : CW D cI base z0 z1 z2 z5 z6 z7 n c2 M2 F2 G2 SP2 (uI RF2 u (F2 v)) RC2 H := hP2
  have hC := CW_fr hC hk (fun q h y => hDJ.1 q h y)
  have hO := OP_fr hO hk hDJ.2.2.1
  have hSW := hSW0.behind hbl hAb hS
  refine pv_nesame (tgt := 323) hx hb dL_step_316 (by decide) ((seat_cn hI hJ hR hv).symm) ?_
  refine pv_iconst hx hb dL_step_319 ?_
  refine lv_goto (tgt := 324) hx hb dL_step_320 (by decide) ?_
  refine W.widen (k := 2) (n := 12) (by omega) (by omega) ?_
  exact nw_zret hx hb hr hlocks hS dL_step_324 rfl (Or.inr rfl) ⟨_, _, _, _, _, _, _, _, _, _, _, _, _, _, _, _, hC, hC2, hO, INV_seat hI ⟨hv.1, hv.2, rfl⟩, INV_seat hJ ⟨hv.1, hv.2, rfl⟩, REL_seat hI hJ hR hv, by omega, by omega, by omega⟩
set_option maxHeartbeats 4000000 in
set_option maxRecDepth 100000 in
theorem st_day {p : Program} {e : Env} {s : State} {m : MethodId} {below : List Frame} {meth : Method} {c : Code} (l : Launch) (hfl : l.stackTraces = false) {D : va_G} {cI : ClassId} {base st : Nat} {Z : Nat → Nat} {x0 x1 x2 x5 x6 x7 z0 z1 z2 z5 z6 z7 pp : Nat} {z : Int}
    (B : bd_At p s m ([.ref x0, .ref z0, .ref pp, .int (iI (z))] : List Value).toArray meth c cL_step 11 (some .boolean) wsL_step RL) (hSW0 : SW D cI base st Z s s.heap) (hDJ : DJ base x0 x1 x2 x5 x6 x7 z0 z1 z2 z5 z6 z7 pp) (hnc1 : va_Nc "java/lang/IllegalArgumentException" "java/lang/IllegalStateException" s) (hnc2 : va_Nc "java/lang/IllegalArgumentException" "java/lang/IndexOutOfBoundsException" s) (hS : va_S (mS x0 x1 x2 x5 x6 x7 z0 z1 z2 z5 z6 z7 pp) s.heap s.heap [])
    {n c1 M1 c2 M2 : Int} {F G SP RF RC F2 G2 SP2 RF2 RC2 PN : Int → Int} (hC : CW D cI base x0 x1 x2 x5 x6 x7 n c1 M1 F G SP RF RC s.heap) (hC2 : CW D cI base z0 z1 z2 z5 z6 z7 n c2 M2 F2 G2 SP2 RF2 RC2 s.heap) (hO : OP D cI pp PN s.heap) (hI : INV n c1 F G RF) (hJ : INV n c2 F2 G2 RF2) (hR : REL n F F2 RF RF2 RC RC2 PN) {k1 k2 : Int} (hn1 : n ≤ c1) (hk1 : c1 ≤ k1 ∧ k1 < 60) (hk2 : c2 ≤ k2 ∧ k2 < 200)
    {kd w : Int}  {fo : Int} {ls : Array Slot} (hl : lv_has ls 11 [(0, .ref x0), (1, .ref z0), (2, .ref pp), (3, .int (iI (z))), (4, .int (iI (n))), (5, .int (iI (kd))), (6, .int (iI (w))), (7, .int (iI (fo)))]) : W p l e ({ frames := 8, cells := 2, slots := 12, locals := 186 } : Room) s m ([.ref x0, .ref z0, .ref pp, .int (iI (z))] : List Value).toArray below meth c s.heap [] 0 0 (MQ below (mu_Q (some (.int (iI 1))) (fun H => RW D cI base x0 x1 x2 x5 x6 x7 z0 z1 z2 z5 z6 z7 pp (k1 + 1) (k2 + 1) H) (mS x0 x1 x2 x5 x6 x7 z0 z1 z2 z5 z6 z7 pp)) ([.ref x0, .ref z0, .ref pp, .int (iI (z))] : List Value).toArray s 2 12 (mS x0 x1 x2 x5 x6 x7 z0 z1 z2 z5 z6 z7 pp)) (F0 m 325 ls []) := by
  obtain ⟨hx, hb, hml, hr, hts, hown, hlocks⟩ := B
  have hK := hSW0.1
  obtain ⟨hn, hcm, hF, hfc, hFi, hG, hs, hRI⟩ := id hI
  obtain ⟨_, hcm2, hF2, hfc2, hFi2, hG2, hs2, hRI2⟩ := id hJ
  have hbl : base ≤ s.heap.size := CW_lt hC
  have hAb : ∀ q, (mS x0 x1 x2 x5 x6 x7 z0 z1 z2 z5 z6 z7 pp) q → base ≤ q := fun q h => by rcases h with h | h | h; exact CW_b hC q h; exact CW_b hC2 q h; exact h ▸ hDJ.2.2.2
  have hSW := hSW0
  refine lv_aload_n hx hb dL_step_325 rfl (lv_at hl 0 rfl) ?_
  refine mu_callV (As := []) (rest := []) CP_mv ⟨hx, hb, hml, hown, hts⟩ (c_passDay l D cI base st Z x0 x1 x2 x5 x6 x7 hn hF (INV_RF hI)) (cwV 0 hts gL_step_X0_passDay rfl rfl rfl (by decide +kernel) ⟨(Nat.le_of_ble_eq_true rfl), (Nat.le_of_ble_eq_true rfl)⟩) ⟨hSW, hC⟩ (CP_rc ⟨hSW, hC⟩) rfl rfl hl.1 (Nat.le_of_ble_eq_true rfl) dL_step_326 ⟨(Nat.le_of_ble_eq_true rfl), (Nat.le_of_ble_eq_true rfl)⟩ hS (fun q h => Or.inl h) (fun H locs hP2 hz hk hS => ?_)
  have hC : CW D cI base x0 x1 x2 x5 x6 x7 n c1 M1 F G SP (pdF F n RF) (pdC F n RF RC) H := hP2
  have hC2 := CW_fr hC2 hk (fun q h y => hDJ.1 q y h)
  have hO := OP_fr hO hk hDJ.2.1
  have hSW := hSW0.behind hbl hAb hS
  refine lv_aload_n hx hb dL_step_329 rfl (lv_at hl 1 rfl) ?_
  refine mu_callV (As := []) (rest := [.int (iI (cn (fun j => decide (pdF F n RF j ≠ -1)) 4))]) CP_mv ⟨hx, hb, hml, hown, hts⟩ (c_passDay l D cI base st Z z0 z1 z2 z5 z6 z7 hn hF2 (INV_RF hJ)) (cwV 0 hts gL_step_X0_passDay rfl rfl rfl (by decide +kernel) ⟨(Nat.le_of_ble_eq_true rfl), (Nat.le_of_ble_eq_true rfl)⟩) ⟨hSW, hC2⟩ (CP_rc ⟨hSW, hC2⟩) rfl rfl hl.1 (Nat.le_of_ble_eq_true rfl) dL_step_330 ⟨(Nat.le_of_ble_eq_true rfl), (Nat.le_of_ble_eq_true rfl)⟩ hS (fun q h => Or.inr (Or.inl h)) (fun H locs hP2 hz hk hS => ?_)
  have hC2 : CW D cI base z0 z1 z2 z5 z6 z7 n c2 M2 F2 G2 SP2 (pdF F2 n RF2) (pdC F2 n RF2 RC2) H := hP2
  have hC := CW_fr hC hk (fun q h y => hDJ.1 q h y)
  have hO := OP_fr hO hk hDJ.2.2.1
  have hSW := hSW0.behind hbl hAb hS
  refine pv_nesame (tgt := 340) hx hb dL_step_333 (by decide) ((day_cn hI hJ hR).symm) ?_
  refine pv_iconst hx hb dL_step_336 ?_
  refine lv_goto (tgt := 341) hx hb dL_step_337 (by decide) ?_
  refine W.widen (k := 2) (n := 12) (by omega) (by omega) ?_
  exact nw_zret hx hb hr hlocks hS dL_step_341 rfl (Or.inr rfl) ⟨_, _, _, _, _, _, _, _, _, _, _, _, _, _, _, _, hC, hC2, hO, INV_day hI, INV_day hJ, REL_day hI hJ hR, by omega, by omega, by omega⟩
set_option maxHeartbeats 4000000 in
set_option maxRecDepth 100000 in
theorem s_tep (l : Launch) (hfl : l.stackTraces = false) (D : va_G) (cI : ClassId) (base st : Nat) (Z : Nat → Nat) (x0 x1 x2 x5 x6 x7 z0 z1 z2 z5 z6 z7 pp : Nat) (k1 k2 : Int) (hk60 : k1 < 60) (hk200 : k2 < 200) (z : Int) (hz : 0 ≤ z ∧ z ≤ 2147483647) : nw_M l yL_step wsL_step ({ frames := 8, cells := 2, slots := 12, locals := 186 } : Room) [.ref x0, .ref z0, .ref pp, .int (iI (z))] (LPW D cI base st Z x0 x1 x2 x5 x6 x7 z0 z1 z2 z5 z6 z7 pp k1 k2) (some (.int (iI 1))) (fun H => RW D cI base x0 x1 x2 x5 x6 x7 z0 z1 z2 z5 z6 z7 pp (k1 + 1) (k2 + 1) H) (mS x0 x1 x2 x5 x6 x7 z0 z1 z2 z5 z6 z7 pp) 2 12 := by
  refine nw_of (cc := cL_step) (maxL := 11) (ret := (some .boolean)) (own := RL) (by decide) rfl rfl (Nat.le_of_ble_eq_true rfl) ?_
  intro p e s m below meth c ls B hP0 hl hS
  obtain ⟨hx, hb, hml, hr, hts, hown, hlocks⟩ := B
  have hl : lv_has ls 11 [(0, .ref x0), (1, .ref z0), (2, .ref pp), (3, .int (iI (z)))] := hl
  obtain ⟨hSW0, ⟨n, c1, M1, F, G, SP, RF, RC, c2, M2, F2, G2, SP2, RF2, RC2, PN, hC, hC2, hO, hI, hJ, hR, hn1, hk1, hk2⟩, hDJ, hnc1, hnc2⟩ := hP0
  have hSW := hSW0
  have hk1 : c1 ≤ k1 ∧ k1 < 60 := ⟨hk1, hk60⟩
  have hk2 : c2 ≤ k2 ∧ k2 < 200 := ⟨hk2, hk200⟩
  have hK := hSW.1
  obtain ⟨hn, hcm, hF, hfc, hFi, hG, hs, hRI⟩ := id hI
  refine lv_aload_n hx hb dL_step_0 rfl (lv_at hl 0 rfl) ?_
  refine pu_callV (v := n) (As := []) (rest := []) CP_mv ⟨hx, hb, hml, hown, hts⟩ (c_size l D cI base st Z x0 x1 x2 x5 x6 x7 hn) (cwV 0 hts gL_step_X0_size rfl rfl rfl (by decide +kernel) ⟨(Nat.le_of_ble_eq_true rfl), (Nat.le_of_ble_eq_true rfl)⟩) ⟨hSW, hC⟩ (CP_rc ⟨hSW, hC⟩) rfl rfl hl.1 (Nat.le_of_ble_eq_true rfl) dL_step_1 ⟨Nat.zero_le _, Nat.zero_le _⟩ ?_
  refine lv_istore (lv' := [(4, .int (iI (n))), (0, .ref x0), (1, .ref z0), (2, .ref pp), (3, .int (iI (z)))]) hx hb dL_step_4 hl (by decide) rfl (fun ls hl => ?_)
  refine lv_iload_n hx hb dL_step_6 rfl (lv_at hl 4 rfl) ?_
  refine pv_bipush hx hb dL_step_7 (by decide +kernel) ?_
  refine pv_irem hx hb dL_step_9 (by omega) (by omega) ?_
  obtain ⟨kd, hkd⟩ : ∃ y, y = z % 12 := ⟨_, rfl⟩
  obtain ⟨w, hw⟩ : ∃ y, y = z / 12 := ⟨_, rfl⟩
  rw [show iI (z % 12) = iI (kd) from congrArg iI (hkd.symm)]
  refine lv_istore (lv' := [(5, .int (iI (kd))), (4, .int (iI (n))), (0, .ref x0), (1, .ref z0), (2, .ref pp), (3, .int (iI (z)))]) hx hb dL_step_10 hl (by decide) rfl (fun ls hl => ?_)
  refine lv_iload_n hx hb dL_step_12 rfl (lv_at hl 5 rfl) ?_
  refine pv_bipush hx hb dL_step_13 (by decide +kernel) ?_
  refine pv_idiv hx hb dL_step_15 (by omega) (by omega) ?_
  rw [show iI (z / 12) = iI (w) from congrArg iI (hw.symm)]
  refine lv_istore (lv' := [(6, .int (iI (w))), (5, .int (iI (kd))), (4, .int (iI (n))), (0, .ref x0), (1, .ref z0), (2, .ref pp), (3, .int (iI (z)))]) hx hb dL_step_16 hl (by decide) rfl (fun ls hl => ?_)
  refine lv_iload hx hb dL_step_18 (lv_at hl 2 rfl) ?_
  by_cases hn0 : n = 0
  · skip
    refine pv_if_ne (tgt := 27) hx hb dL_step_20 (by decide) (by omega) (fun c9 => False.elim (by omega)) (fun _ => ?_)
    refine pv_iconst hx hb dL_step_23 ?_
    refine lv_goto (tgt := 36) hx hb dL_step_24 (by decide) ?_
    refine lv_istore (lv' := [(7, .int (iI (-1))), (6, .int (iI (w))), (5, .int (iI (kd))), (4, .int (iI (n))), (0, .ref x0), (1, .ref z0), (2, .ref pp), (3, .int (iI (z)))]) hx hb dL_step_36 hl (by decide) rfl (fun ls hl => ?_)
    refine lv_iload hx hb dL_step_38 (lv_at hl 3 rfl) ?_
    refine pv_if_eq (tgt := 48) hx hb dL_step_40 (by decide) (by omega) (fun _ => ?_) (fun c9 => False.elim (by omega))
    exact st_first l hfl ⟨hx, hb, hml, hr, hts, hown, hlocks⟩ hSW0 hDJ hnc1 hnc2 hS hC hC2 hO hI hJ hR hn1 hk1 hk2 (lv_sub hl [4, 5, 6, 7, 3, 2, 1, 0] rfl)
  · have hvr : 0 ≤ w % n ∧ w % n < n := ⟨Int.emod_nonneg _ hn0, Int.emod_lt_of_pos _ (by omega)⟩
    refine pv_if_ne (tgt := 27) hx hb dL_step_20 (by decide) (by omega) (fun _ => ?_) (fun c9 => False.elim (by omega))
    refine lv_aload_n hx hb dL_step_27 rfl (lv_at hl 3 rfl) ?_
    refine lv_iload hx hb dL_step_28 (lv_at hl 0 rfl) ?_
    refine lv_iload hx hb dL_step_30 (lv_at hl 2 rfl) ?_
    refine pv_irem hx hb dL_step_32 (by omega) (by omega) ?_
    obtain ⟨v, hv9⟩ : ∃ y, y = w % n := ⟨_, rfl⟩
    rw [← hv9] at hvr
    rw [show iI (w % n) = iI (v) from congrArg iI (hv9.symm)]
    refine pu_callS (v := F v) (As := [.ref x0, .int (iI (v))]) (rest := []) CP_mv ⟨hx, hb, hml, hown, hts⟩ (f_at l D cI base st Z x0 x1 x2 x5 x6 x7 hI v hvr) (va_cwS 2 hts gL_step_L_folderAt rfl rfl rfl (by decide +kernel) ⟨(Nat.le_of_ble_eq_true rfl), (Nat.le_of_ble_eq_true rfl)⟩) ⟨hSW, hC⟩ rfl rfl hl.1 (Nat.le_of_ble_eq_true rfl) dL_step_33 ⟨(Nat.le_of_ble_eq_true rfl), (Nat.le_of_ble_eq_true rfl)⟩ ?_
    refine lv_istore (lv' := [(7, .int (iI (F v))), (6, .int (iI (w))), (5, .int (iI (kd))), (4, .int (iI (n))), (0, .ref x0), (1, .ref z0), (2, .ref pp), (3, .int (iI (z)))]) hx hb dL_step_36 hl (by decide) rfl (fun ls hl => ?_)
    refine lv_iload hx hb dL_step_38 (lv_at hl 3 rfl) ?_
    refine pv_if_eq (tgt := 48) hx hb dL_step_40 (by decide) (by omega) (fun c9 => False.elim (by omega)) (fun _ => ?_)
    refine lv_iload hx hb dL_step_43 (lv_at hl 2 rfl) ?_
    by_cases hc : kd = 0
    · skip
      refine pv_if_ne (tgt := 106) hx hb dL_step_45 (by decide) (by omega) (fun c9 => False.elim (by omega)) (fun _ => ?_)
      exact st_first l hfl ⟨hx, hb, hml, hr, hts, hown, hlocks⟩ hSW0 hDJ hnc1 hnc2 hS hC hC2 hO hI hJ hR hn1 hk1 hk2 (lv_sub hl [4, 5, 6, 7, 3, 2, 1, 0] rfl)
    refine pv_if_ne (tgt := 106) hx hb dL_step_45 (by decide) (by omega) (fun _ => ?_) (fun c9 => False.elim (by omega))
    refine lv_iload hx hb dL_step_106 (lv_at hl 2 rfl) ?_
    refine pv_bipush hx hb dL_step_108 (by decide +kernel) ?_
    by_cases hc7 : kd < 7
    · skip
      refine pv_icmp_ge (tgt := 175) hx hb dL_step_110 (by decide) (by omega) (fun c9 => False.elim (by omega)) (fun _ => ?_)
      exact st_behind l hfl ⟨hx, hb, hml, hr, hts, hown, hlocks⟩ hSW0 hDJ hnc1 hnc2 hS hC hC2 hO hI hJ hR hn1 hk1 hk2 hvr (lv_sub hl [4, 5, 6, 7, 3, 2, 1, 0] rfl)
    refine pv_icmp_ge (tgt := 175) hx hb dL_step_110 (by decide) (by omega) (fun _ => ?_) (fun c9 => False.elim (by omega))
    refine lv_iload hx hb dL_step_175 (lv_at hl 2 rfl) ?_
    refine pv_bipush hx hb dL_step_177 (by decide +kernel) ?_
    by_cases hc8 : kd = 7
    · skip
      refine pv_icmp_ne (tgt := 209) hx hb dL_step_179 (by decide) (by omega) (fun c9 => False.elim (by omega)) (fun _ => ?_)
      exact st_take l hfl ⟨hx, hb, hml, hr, hts, hown, hlocks⟩ hSW0 hDJ hnc1 hnc2 hS hC hC2 hO hI hJ hR hn1 hk1 hk2 hvr (lv_sub hl [4, 5, 6, 7, 3, 2, 1, 0] rfl)
    refine pv_icmp_ne (tgt := 209) hx hb dL_step_179 (by decide) (by omega) (fun _ => ?_) (fun c9 => False.elim (by omega))
    refine lv_iload hx hb dL_step_209 (lv_at hl 2 rfl) ?_
    refine pv_bipush hx hb dL_step_211 (by decide +kernel) ?_
    by_cases hc9 : kd = 8
    · skip
      refine pv_icmp_ne (tgt := 285) hx hb dL_step_213 (by decide) (by omega) (fun c9 => False.elim (by omega)) (fun _ => ?_)
      exact st_carry l hfl ⟨hx, hb, hml, hr, hts, hown, hlocks⟩ hSW0 hDJ hnc1 hnc2 hS hC hC2 hO hI hJ hR hn1 hk1 hk2 hvr (by omega) ⟨Int.emod_nonneg _ hn0, Int.emod_lt_of_pos _ (by omega)⟩ (lv_sub hl [4, 5, 6, 7, 3, 2, 1, 0] rfl)
    refine pv_icmp_ne (tgt := 285) hx hb dL_step_213 (by decide) (by omega) (fun _ => ?_) (fun c9 => False.elim (by omega))
    refine lv_iload hx hb dL_step_285 (lv_at hl 2 rfl) ?_
    refine pv_bipush hx hb dL_step_287 (by decide +kernel) ?_
    by_cases hc10 : kd = 9
    · skip
      refine pv_icmp_ne (tgt := 325) hx hb dL_step_289 (by decide) (by omega) (fun c9 => False.elim (by omega)) (fun _ => ?_)
      exact st_seat l hfl ⟨hx, hb, hml, hr, hts, hown, hlocks⟩ hSW0 hDJ hnc1 hnc2 hS hC hC2 hO hI hJ hR hn1 hk1 hk2 hvr (by omega) (lv_sub hl [4, 5, 6, 7, 3, 2, 1, 0] rfl)
    refine pv_icmp_ne (tgt := 325) hx hb dL_step_289 (by decide) (by omega) (fun _ => ?_) (fun c9 => False.elim (by omega))
    exact st_day l hfl ⟨hx, hb, hml, hr, hts, hown, hlocks⟩ hSW0 hDJ hnc1 hnc2 hS hC hC2 hO hI hJ hR hn1 hk1 hk2 (lv_sub hl [4, 5, 6, 7, 3, 2, 1, 0] rfl)
