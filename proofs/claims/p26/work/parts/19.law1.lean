/-! the law's helpers without handlers -/
theorem fa_in {F : Int → Int} {n v : Int} (h : 0 ≤ v ∧ v < n) : fa F n v = F v := by unfold fa; rw [if_pos h]
theorem fa_out {F : Int → Int} {n v : Int} (h : ¬ (0 ≤ v ∧ v < n)) : fa F n v = -1 := by unfold fa; rw [if_neg h]
/-- the script's number at a place, as the law draws it -/
def dr (xs : Nat → Int32) (L : Nat) (k : Int) : Int32 := if k < L then xs k.toNat else iI (51001 * k + 8081)
def XP (b L : Nat) (xs : Nat → Int32) : State → Heap → Prop := fun U H => va_X b L xs U H
theorem XP_mv {b L : Nat} {xs : Nat → Int32} : mvb (XP b L xs) := fun _ _ _ hW h => va_X.moved hW.alike h
set_option maxHeartbeats 4000000 in
set_option maxRecDepth 100000 in
theorem l_drawn (l : Launch) (b L : Nat) (xs : Nat → Int32) (hL : L ≤ 260) (k : Int) (hk : 0 ≤ k ∧ k ≤ 60) (v : Int) (hv : dr xs L k &&& 2147483647 = iI v) : pu_M l yL_drawn wsL_drawn ({ frames := 0, cells := 0, slots := 0, locals := 0 } : Room) [.ref b, .int (iI (k))] (XP b L xs) v := by
  refine pu_of (cc := cL_drawn) (maxL := 3) (ret := (some .int)) (own := RL) (by decide) rfl rfl (Nat.le_of_ble_eq_true rfl) ?_
  intro p e s m below meth c ls B hP0 hl
  obtain ⟨hx, hb, hml, hr, hts, hown, hlocks⟩ := B
  have hl : lv_has ls 3 [(0, .ref b), (1, .int (iI (k)))] := hl
  refine lv_iload_n hx hb dL_drawn_0 rfl (lv_at hl 1 rfl) ?_
  refine lv_aload_n hx hb dL_drawn_1 rfl (lv_at hl 0 rfl) ?_
  have hbl : b < s.heap.size := by obtain ⟨scr, h1, -⟩ := hP0; exact (Array.getElem?_eq_some_iff.mp h1).1
  refine va_slen (A := fun _ => False) (H0 := s.heap) hx hb hP0 hbl (fun h => h) va_S.rf dL_drawn_2 ?_
  rw [show Int32.ofNat L = iI (L : Int) from (iI_nI L).symm]
  obtain ⟨u, hur, hu⟩ := iI_of (dr xs L k)
  rw [hu] at hv
  have tail : ∀ ls : Array Slot, lv_has ls 3 [(0, .ref b), (1, .int (iI k))] → W p l e ({ frames := 0, cells := 0, slots := 0, locals := 0 } : Room) s m ([.ref b, .int (iI (k))] : List Value).toArray below meth c s.heap [] 0 0 (MQ below (pu_Q v) ([.ref b, .int (iI (k))] : List Value).toArray s 0 0 (fun _ => False)) (F0 m 20 ls [.int (iI u)]) := by
    intro ls hl
    refine lv_istore_n (lv' := [(2, .int (iI (u))), (0, .ref b), (1, .int (iI (k)))]) hx hb dL_drawn_20 rfl hl (by decide) rfl (fun ls hl => ?_)
    refine lv_iload_n hx hb dL_drawn_21 rfl (lv_at hl 0 rfl) ?_
    refine lv_ldc (v := 2147483647) hx hb hown (hts (.constant RL 8 (2147483647)) (by decide +kernel)) dL_drawn_22 ?_
    refine lv_iand hx hb dL_drawn_24 ?_
    rw [hv]
    exact pu_iret hx hb hr hlocks dL_drawn_25 rfl
  by_cases hkL : k < (L : Int)
  · have hu2 : xs k.toNat = iI u := by rw [← hu]; unfold dr; rw [if_pos hkL]
    refine pv_icmp_ge (tgt := 12) hx hb dL_drawn_3 (by decide) (by omega) (fun c9 => False.elim (by omega)) (fun _ => ?_)
    refine lv_aload_n hx hb dL_drawn_6 rfl (lv_at hl 0 rfl) ?_
    refine lv_iload_n hx hb dL_drawn_7 rfl (lv_at hl 1 rfl) ?_
    refine va_sld (A := fun _ => False) (H0 := s.heap) hx hb hP0 hbl (fun h => h) va_S.rf (iI_in (n := L) (by omega) (by omega)) dL_drawn_8 ?_
    rw [iI_N (by omega), hu2]
    refine lv_goto (tgt := 20) hx hb dL_drawn_9 (by decide) ?_
    exact tail ls hl
  · have hu2 : iI (51001 * k + 8081) = iI u := by rw [← hu]; unfold dr; rw [if_neg hkL]
    refine pv_icmp_ge (tgt := 12) hx hb dL_drawn_3 (by decide) (by omega) (fun _ => ?_) (fun c9 => False.elim (by omega))
    refine lv_ldc (v := 51001) hx hb hown (hts (.constant RL 7 (51001)) (by decide +kernel)) dL_drawn_12 ?_
    rw [show (51001 : Int32) = iI 51001 by decide +kernel]
    refine lv_iload_n hx hb dL_drawn_14 rfl (lv_at hl 1 rfl) ?_
    refine pv_imul hx hb dL_drawn_15 ?_
    refine pv_sipush hx hb dL_drawn_16 (by decide +kernel) ?_
    refine pv_iadd hx hb dL_drawn_19 ?_
    rw [hu2]
    exact tail ls hl
set_option maxHeartbeats 4000000 in
set_option maxRecDepth 100000 in
theorem f_at (l : Launch) (D : va_G) (cI : ClassId) (base st : Nat) (Z : Nat → Nat) (x0 x1 x2 x5 x6 x7 : Nat) {n came MV : Int} {F G SP RF RC : Int → Int} (hI : INV n came F G RF) (v : Int) (hv : 0 ≤ v ∧ v < n) : pu_M l yL_folderAt wsL_folderAt ({ frames := 4, cells := 0, slots := 0, locals := 88 } : Room) [.ref x0, .int (iI (v))] (CP D cI base st Z x0 x1 x2 x5 x6 x7 n came MV F G SP RF RC) (F v) := by
  refine pu_of (cc := cL_folderAt) (maxL := 4) (ret := (some .int)) (own := RL) (by decide) rfl rfl (Nat.le_of_ble_eq_true rfl) ?_
  intro p e s m below meth c ls B hP0 hl
  obtain ⟨hx, hb, hml, hr, hts, hown, hlocks⟩ := B
  have hl : lv_has ls 4 [(0, .ref x0), (1, .int (iI (v)))] := hl
  obtain ⟨hn, hcm, hF, hfc, hFi, hG, hs, hRI0⟩ := id hI
  refine lv_aload_n hx hb dL_folderAt_0 rfl (lv_at hl 0 rfl) ?_
  refine pu_callV (v := fa F n 0) (As := []) (rest := []) CP_mv ⟨hx, hb, hml, hown, hts⟩ (c_first l D cI base st Z x0 x1 x2 x5 x6 x7 hn _ rfl) (cwV 0 hts gL_folderAt_X0_first rfl rfl rfl (by decide +kernel) ⟨(Nat.le_of_ble_eq_true rfl), (Nat.le_of_ble_eq_true rfl)⟩) hP0 (CP_rc hP0) rfl rfl hl.1 (Nat.le_of_ble_eq_true rfl) dL_folderAt_1 ⟨Nat.zero_le _, Nat.zero_le _⟩ ?_
  rw [show iI (fa F n 0) = iI (F 0) from congrArg iI (fa_in (by omega))]
  refine lv_istore_n (lv' := [(2, .int (iI (F 0))), (0, .ref x0), (1, .int (iI (v)))]) hx hb dL_folderAt_4 rfl hl (by decide) rfl (fun ls hl => ?_)
  refine pv_iconst hx hb dL_folderAt_5 ?_
  refine lv_istore_n (lv' := [(3, .int (iI (0))), (2, .int (iI (F 0))), (0, .ref x0), (1, .int (iI (v)))]) hx hb dL_folderAt_6 rfl hl (by decide) rfl (fun ls hl => ?_)
  have hloop : ∀ (fuel : Nat) (k : Int) (ls : Array Slot), v - k < fuel → 0 ≤ k ∧ k ≤ v → lv_has ls 4 [(3, .int (iI k)), (2, .int (iI (F k))), (0, .ref x0), (1, .int (iI v))] → W p l e ({ frames := 4, cells := 0, slots := 0, locals := 88 } : Room) s m ([.ref x0, .int (iI (v))] : List Value).toArray below meth c s.heap [] 0 0 (MQ below (pu_Q (F v)) ([.ref x0, .int (iI (v))] : List Value).toArray s 0 0 (fun _ => False)) (F0 m 7 ls []) := by
    intro fuel
    induction fuel with
    | zero => intro k ls h1 h2; exfalso; omega
    | succ fuel ih =>
      intro k ls h1 h2 hl
      by_cases hk : k < v
      · have hFk := hF k (by omega) (by omega)
        refine lv_iload_n hx hb dL_folderAt_7 rfl (lv_at hl 0 rfl) ?_
        refine lv_iload_n hx hb dL_folderAt_8 rfl (lv_at hl 3 rfl) ?_
        refine pv_icmp_ge (tgt := 30) hx hb dL_folderAt_9 (by decide) (by omega) (fun c9 => False.elim (by omega)) (fun _ => ?_)
        refine lv_iload_n hx hb dL_folderAt_12 rfl (lv_at hl 1 rfl) ?_
        refine pv_iconst hx hb dL_folderAt_13 ?_
        refine pv_icmp_eq (tgt := 30) hx hb dL_folderAt_14 (by decide) (by omega) (fun c9 => False.elim (by omega)) (fun _ => ?_)
        refine lv_aload_n hx hb dL_folderAt_17 rfl (lv_at hl 2 rfl) ?_
        refine pv_iconst hx hb dL_folderAt_18 ?_
        refine lv_iload_n hx hb dL_folderAt_19 rfl (lv_at hl 1 rfl) ?_
        refine ar_call (v := F (k + 1)) (As := [.ref x0, .int (iI (0)), .int (iI (F k))]) (rest := []) CP_mv ⟨hx, hb, hml, hown, hts⟩ (q_next l D cI base st Z x0 x1 x2 x5 x6 x7 hn hF (F k) (by omega) k (PL_k hI (by omega)) (by omega) (F (k + 1)) (fa_in (by omega)).symm) (vx_cwSW 3 hts gL_folderAt_L_asked rfl rfl rfl (by decide +kernel) ⟨(Nat.le_of_ble_eq_true rfl), (Nat.le_of_ble_eq_true rfl)⟩) hP0 rfl rfl hl.1 (Nat.le_of_ble_eq_true rfl) dL_folderAt_20 ⟨Nat.zero_le _, Nat.zero_le _⟩ ?_
        refine lv_istore_n (lv' := [(2, .int (iI (F (k + 1)))), (3, .int (iI (k))), (0, .ref x0), (1, .int (iI (v)))]) hx hb dL_folderAt_23 rfl hl (by decide) rfl (fun ls hl => ?_)
        refine pv_iinc (lv' := [(3, .int (iI (k + 1))), (2, .int (iI (F (k + 1)))), (0, .ref x0), (1, .int (iI (v)))]) hx hb dL_folderAt_24 hl (k := 1) rfl (by decide) rfl (fun ls hl => ?_)
        refine lv_goto (tgt := 7) hx hb dL_folderAt_27 (by decide) ?_
        exact ih (k + 1) ls (by omega) (by omega) (lv_sub hl [0, 1, 2, 3] rfl)
      · skip
        refine lv_iload_n hx hb dL_folderAt_7 rfl (lv_at hl 0 rfl) ?_
        refine lv_iload_n hx hb dL_folderAt_8 rfl (lv_at hl 3 rfl) ?_
        refine pv_icmp_ge (tgt := 30) hx hb dL_folderAt_9 (by decide) (by omega) (fun _ => ?_) (fun c9 => False.elim (by omega))
        refine lv_iload_n hx hb dL_folderAt_30 rfl (lv_at hl 1 rfl) ?_
        exact pu_iret hx hb hr hlocks dL_folderAt_31 (by rw [show k = v by omega])
  exact hloop (v.toNat + 1) 0 ls (by omega) (by omega) (lv_sub hl [0, 1, 2, 3] rfl)
def DJ (base x0 x1 x2 x5 x6 x7 z0 z1 z2 z5 z6 z7 pp : Nat) : Prop := (∀ q, mC x0 x1 x2 x5 x6 x7 q → ¬ mC z0 z1 z2 z5 z6 z7 q) ∧ ¬ mC x0 x1 x2 x5 x6 x7 pp ∧ ¬ mC z0 z1 z2 z5 z6 z7 pp ∧ base ≤ pp
/-- two archives whose folders are partners, in one heap, and the row of partners -/
def RW (D : va_G) (cI : ClassId) (base x0 x1 x2 x5 x6 x7 z0 z1 z2 z5 z6 z7 pp : Nat) (k1 k2 : Int) (H : Heap) : Prop := ∃ (n c1 M1 : Int) (F G SP RF RC : Int → Int) (c2 M2 : Int) (F2 G2 SP2 RF2 RC2 PN : Int → Int), CW D cI base x0 x1 x2 x5 x6 x7 n c1 M1 F G SP RF RC H ∧ CW D cI base z0 z1 z2 z5 z6 z7 n c2 M2 F2 G2 SP2 RF2 RC2 H ∧ OP D cI pp PN H ∧ INV n c1 F G RF ∧ INV n c2 F2 G2 RF2 ∧ REL n F F2 RF RF2 RC RC2 PN ∧ n ≤ c1 ∧ c1 ≤ k1 ∧ c2 ≤ k2
def LPW (D : va_G) (cI : ClassId) (base st : Nat) (Z : Nat → Nat) (x0 x1 x2 x5 x6 x7 z0 z1 z2 z5 z6 z7 pp : Nat) (k1 k2 : Int) : State → Heap → Prop := fun U H => SW D cI base st Z U H ∧ RW D cI base x0 x1 x2 x5 x6 x7 z0 z1 z2 z5 z6 z7 pp k1 k2 H ∧ DJ base x0 x1 x2 x5 x6 x7 z0 z1 z2 z5 z6 z7 pp ∧ va_Nc "java/lang/IllegalArgumentException" "java/lang/IllegalStateException" U ∧ va_Nc "java/lang/IllegalArgumentException" "java/lang/IndexOutOfBoundsException" U
theorem LPW_mv {D : va_G} {cI : ClassId} {base st : Nat} {Z : Nat → Nat} {x0 x1 x2 x5 x6 x7 z0 z1 z2 z5 z6 z7 pp : Nat} {k1 k2 : Int} : mvb (LPW D cI base st Z x0 x1 x2 x5 x6 x7 z0 z1 z2 z5 z6 z7 pp k1 k2) := fun _ _ _ hW h => ⟨h.1.move hW, h.2.1, h.2.2.1, va_Nc.moved hW.alike h.2.2.2.1, va_Nc.moved hW.alike h.2.2.2.2⟩
set_option maxHeartbeats 4000000 in
set_option maxRecDepth 100000 in
theorem a_like (l : Launch) (D : va_G) (cI : ClassId) (base st : Nat) (Z : Nat → Nat) (x0 x1 x2 x5 x6 x7 z0 z1 z2 z5 z6 z7 pp : Nat) (k1 k2 : Int) (hk60 : k1 ≤ 60) : pu_M l yL_areAlike wsL_areAlike ({ frames := 4, cells := 0, slots := 0, locals := 88 } : Room) [.ref x0, .ref z0, .ref pp] (LPW D cI base st Z x0 x1 x2 x5 x6 x7 z0 z1 z2 z5 z6 z7 pp k1 k2) 1 := by
  refine pu_of (cc := cL_areAlike) (maxL := 10) (ret := (some .boolean)) (own := RL) (by decide) rfl rfl (Nat.le_of_ble_eq_true rfl) ?_
  intro p e s m below meth c ls B hP0 hl
  obtain ⟨hx, hb, hml, hr, hts, hown, hlocks⟩ := B
  have hl : lv_has ls 10 [(0, .ref x0), (1, .ref z0), (2, .ref pp)] := hl
  obtain ⟨hSW, ⟨n, c1, M1, F, G, SP, RF, RC, c2, M2, F2, G2, SP2, RF2, RC2, PN, hC, hC2, hO, hI, hJ, hR, hn1, hk1, hk2⟩, hDJ, hnc1, hnc2⟩ := hP0
  have hK := hSW.1
  obtain ⟨hn, hcm, hF, hfc, hFi, hG, hs, hRI⟩ := id hI
  obtain ⟨_, hcm2, hF2, hfc2, hFi2, hG2, hs2, hRI2⟩ := id hJ
  refine lv_aload_n hx hb dL_areAlike_0 rfl (lv_at hl 0 rfl) ?_
  refine pu_callV (v := fa F n 0) (As := []) (rest := []) CP_mv ⟨hx, hb, hml, hown, hts⟩ (c_first l D cI base st Z x0 x1 x2 x5 x6 x7 hn _ rfl) (cwV 0 hts gL_areAlike_X0_first rfl rfl rfl (by decide +kernel) ⟨(Nat.le_of_ble_eq_true rfl), (Nat.le_of_ble_eq_true rfl)⟩) ⟨hSW, hC⟩ (CP_rc ⟨hSW, hC⟩) rfl rfl hl.1 (Nat.le_of_ble_eq_true rfl) dL_areAlike_1 ⟨Nat.zero_le _, Nat.zero_le _⟩ ?_
  refine lv_istore_n (lv' := [(3, .int (iI (fa F n 0))), (0, .ref x0), (1, .ref z0), (2, .ref pp)]) hx hb dL_areAlike_4 rfl hl (by decide) rfl (fun ls hl => ?_)
  refine lv_aload_n hx hb dL_areAlike_5 rfl (lv_at hl 2 rfl) ?_
  refine pu_callV (v := fa F2 n 0) (As := []) (rest := []) CP_mv ⟨hx, hb, hml, hown, hts⟩ (c_first l D cI base st Z z0 z1 z2 z5 z6 z7 hn _ rfl) (cwV 0 hts gL_areAlike_X0_first rfl rfl rfl (by decide +kernel) ⟨(Nat.le_of_ble_eq_true rfl), (Nat.le_of_ble_eq_true rfl)⟩) ⟨hSW, hC2⟩ (CP_rc ⟨hSW, hC2⟩) rfl rfl hl.1 (Nat.le_of_ble_eq_true rfl) dL_areAlike_6 ⟨Nat.zero_le _, Nat.zero_le _⟩ ?_
  refine lv_istore (lv' := [(4, .int (iI (fa F2 n 0))), (3, .int (iI (fa F n 0))), (0, .ref x0), (1, .ref z0), (2, .ref pp)]) hx hb dL_areAlike_9 hl (by decide) rfl (fun ls hl => ?_)
  refine pv_iconst hx hb dL_areAlike_11 ?_
  refine lv_istore (lv' := [(5, .int (iI (0))), (4, .int (iI (fa F2 n 0))), (3, .int (iI (fa F n 0))), (0, .ref x0), (1, .ref z0), (2, .ref pp)]) hx hb dL_areAlike_12 hl (by decide) rfl (fun ls hl => ?_)
  refine pv_iconst hx hb dL_areAlike_14 ?_
  refine lv_istore (lv' := [(6, .int (iI (-1))), (5, .int (iI (0))), (4, .int (iI (fa F2 n 0))), (3, .int (iI (fa F n 0))), (0, .ref x0), (1, .ref z0), (2, .ref pp)]) hx hb dL_areAlike_15 hl (by decide) rfl (fun ls hl => ?_)
  refine lv_aload_n hx hb dL_areAlike_17 rfl (lv_at hl 4 rfl) ?_
  refine pu_callV (v := n) (As := []) (rest := []) CP_mv ⟨hx, hb, hml, hown, hts⟩ (c_size l D cI base st Z x0 x1 x2 x5 x6 x7 hn) (cwV 0 hts gL_areAlike_X0_size rfl rfl rfl (by decide +kernel) ⟨(Nat.le_of_ble_eq_true rfl), (Nat.le_of_ble_eq_true rfl)⟩) ⟨hSW, hC⟩ (CP_rc ⟨hSW, hC⟩) rfl rfl hl.1 (Nat.le_of_ble_eq_true rfl) dL_areAlike_18 ⟨Nat.zero_le _, Nat.zero_le _⟩ ?_
  refine lv_aload_n hx hb dL_areAlike_21 rfl (lv_at hl 5 rfl) ?_
  refine pu_callV (v := n) (As := []) (rest := [.int (iI (n))]) CP_mv ⟨hx, hb, hml, hown, hts⟩ (c_size l D cI base st Z z0 z1 z2 z5 z6 z7 hn) (cwV 0 hts gL_areAlike_X0_size rfl rfl rfl (by decide +kernel) ⟨(Nat.le_of_ble_eq_true rfl), (Nat.le_of_ble_eq_true rfl)⟩) ⟨hSW, hC2⟩ (CP_rc ⟨hSW, hC2⟩) rfl rfl hl.1 (Nat.le_of_ble_eq_true rfl) dL_areAlike_22 ⟨Nat.zero_le _, Nat.zero_le _⟩ ?_
  refine pv_nesame (tgt := 32) hx hb dL_areAlike_25 (by decide) (rfl) ?_
  refine pv_iconst hx hb dL_areAlike_28 ?_
  refine lv_goto (tgt := 33) hx hb dL_areAlike_29 (by decide) ?_
  refine lv_istore (lv' := [(7, .int (iI (1))), (6, .int (iI (-1))), (5, .int (iI (0))), (4, .int (iI (fa F2 n 0))), (3, .int (iI (fa F n 0))), (0, .ref x0), (1, .ref z0), (2, .ref pp)]) hx hb dL_areAlike_33 hl (by decide) rfl (fun ls hl => ?_)
  obtain ⟨pf, hAp, hGP⟩ := hO
  have hrd : ∀ (fuel : Nat) (r : Int) (ls : Array Slot), 4 - r < fuel → 0 ≤ r ∧ r ≤ 4 → lv_has ls 10 [(8, .int (iI r)), (7, .int (iI 1)), (0, .ref x0), (1, .ref z0), (2, .ref pp)] → W p l e ({ frames := 4, cells := 0, slots := 0, locals := 88 } : Room) s m ([.ref x0, .ref z0, .ref pp] : List Value).toArray below meth c s.heap [] 0 0 (MQ below (pu_Q 1) ([.ref x0, .ref z0, .ref pp] : List Value).toArray s 0 0 (fun _ => False)) (F0 m 167 ls []) := by
    intro fuel
    induction fuel with
    | zero => intro r ls h1 h2; exfalso; omega
    | succ fuel ih =>
      intro r ls h1 h2 hl
      by_cases hr4 : r < 4
      · have hra := INV_RF hI r (by omega) (by omega)
        have hrb := INV_RF hJ r (by omega) (by omega)
        have hrr := hR.2.1 r (by omega) (by omega)
        refine lv_iload hx hb dL_areAlike_167 (lv_at hl 0 rfl) ?_
        refine pv_iconst hx hb dL_areAlike_169 ?_
        refine pv_icmp_ge (tgt := 241) hx hb dL_areAlike_170 (by decide) (by omega) (fun c9 => False.elim (by omega)) (fun _ => ?_)
        refine lv_iload hx hb dL_areAlike_173 (lv_at hl 1 rfl) ?_
        refine pv_if_eq (tgt := 241) hx hb dL_areAlike_175 (by decide) (by omega) (fun c9 => False.elim (by omega)) (fun _ => ?_)
        refine lv_aload_n hx hb dL_areAlike_178 rfl (lv_at hl 2 rfl) ?_
        refine pv_iconst hx hb dL_areAlike_179 ?_
        refine lv_iload hx hb dL_areAlike_180 (lv_at hl 0 rfl) ?_
        refine ar_call (v := RF r) (As := [.ref x0, .int (iI (3)), .int (iI (r))]) (rest := []) CP_mv ⟨hx, hb, hml, hown, hts⟩ (q_at l D cI base st Z x0 x1 x2 x5 x6 x7 r (by omega)) (vx_cwSW 3 hts gL_areAlike_L_asked rfl rfl rfl (by decide +kernel) ⟨(Nat.le_of_ble_eq_true rfl), (Nat.le_of_ble_eq_true rfl)⟩) ⟨hSW, hC⟩ rfl rfl hl.1 (Nat.le_of_ble_eq_true rfl) dL_areAlike_182 ⟨Nat.zero_le _, Nat.zero_le _⟩ ?_
        refine lv_istore (lv' := [(9, .int (iI (RF r))), (8, .int (iI (r))), (7, .int (iI (1))), (0, .ref x0), (1, .ref z0), (2, .ref pp)]) hx hb dL_areAlike_185 hl (by decide) rfl (fun ls hl => ?_)
        refine lv_aload_n hx hb dL_areAlike_187 rfl (lv_at hl 4 rfl) ?_
        refine pv_iconst hx hb dL_areAlike_188 ?_
        refine lv_iload hx hb dL_areAlike_189 (lv_at hl 1 rfl) ?_
        refine ar_call (v := RF2 r) (As := [.ref z0, .int (iI (3)), .int (iI (r))]) (rest := []) CP_mv ⟨hx, hb, hml, hown, hts⟩ (q_at l D cI base st Z z0 z1 z2 z5 z6 z7 r (by omega)) (vx_cwSW 3 hts gL_areAlike_L_asked rfl rfl rfl (by decide +kernel) ⟨(Nat.le_of_ble_eq_true rfl), (Nat.le_of_ble_eq_true rfl)⟩) ⟨hSW, hC2⟩ rfl rfl hl.1 (Nat.le_of_ble_eq_true rfl) dL_areAlike_191 ⟨Nat.zero_le _, Nat.zero_le _⟩ ?_
        refine lv_iload hx hb dL_areAlike_194 (lv_at hl 0 rfl) ?_
        refine pv_iconst hx hb dL_areAlike_196 ?_
        have hjoin : ∀ ls : Array Slot, lv_has ls 10 [(9, .int (iI (RF r))), (8, .int (iI r)), (7, .int (iI 1)), (0, .ref x0), (1, .ref z0), (2, .ref pp)] → W p l e ({ frames := 4, cells := 0, slots := 0, locals := 88 } : Room) s m ([.ref x0, .ref z0, .ref pp] : List Value).toArray below meth c s.heap [] 0 0 (MQ below (pu_Q 1) ([.ref x0, .ref z0, .ref pp] : List Value).toArray s 0 0 (fun _ => False)) (F0 m 208 ls [.int (iI (RF2 r)), .int (iI (RF2 r))]) := by
          intro ls hl
          refine pv_nesame (tgt := 232) hx hb dL_areAlike_208 (by decide) (rfl) ?_
          refine lv_aload_n hx hb dL_areAlike_211 rfl (lv_at hl 3 rfl) ?_
          refine pv_iconst hx hb dL_areAlike_212 ?_
          refine lv_iload hx hb dL_areAlike_213 (lv_at hl 1 rfl) ?_
          refine ar_call (v := RC r) (As := [.ref x0, .int (iI (4)), .int (iI (r))]) (rest := []) CP_mv ⟨hx, hb, hml, hown, hts⟩ (q_read l D cI base st Z x0 x1 x2 x5 x6 x7 r (by omega)) (vx_cwSW 3 hts gL_areAlike_L_asked rfl rfl rfl (by decide +kernel) ⟨(Nat.le_of_ble_eq_true rfl), (Nat.le_of_ble_eq_true rfl)⟩) ⟨hSW, hC⟩ rfl rfl hl.1 (Nat.le_of_ble_eq_true rfl) dL_areAlike_215 ⟨Nat.zero_le _, Nat.zero_le _⟩ ?_
          refine lv_aload_n hx hb dL_areAlike_218 rfl (lv_at hl 4 rfl) ?_
          refine pv_iconst hx hb dL_areAlike_219 ?_
          refine lv_iload hx hb dL_areAlike_220 (lv_at hl 1 rfl) ?_
          refine ar_call (v := RC2 r) (As := [.ref z0, .int (iI (4)), .int (iI (r))]) (rest := [.int (iI (RC r))]) CP_mv ⟨hx, hb, hml, hown, hts⟩ (q_read l D cI base st Z z0 z1 z2 z5 z6 z7 r (by omega)) (vx_cwSW 3 hts gL_areAlike_L_asked rfl rfl rfl (by decide +kernel) ⟨(Nat.le_of_ble_eq_true rfl), (Nat.le_of_ble_eq_true rfl)⟩) ⟨hSW, hC2⟩ rfl rfl hl.1 (Nat.le_of_ble_eq_true rfl) dL_areAlike_222 ⟨Nat.zero_le _, Nat.zero_le _⟩ ?_
          refine pv_nesame (tgt := 232) hx hb dL_areAlike_225 (by decide) ((hR.2.2 r (by omega) (by omega)).symm) ?_
          refine pv_iconst hx hb dL_areAlike_228 ?_
          refine lv_goto (tgt := 233) hx hb dL_areAlike_229 (by decide) ?_
          refine lv_istore (lv' := [(7, .int (iI (1))), (9, .int (iI (RF r))), (8, .int (iI (r))), (0, .ref x0), (1, .ref z0), (2, .ref pp)]) hx hb dL_areAlike_233 hl (by decide) rfl (fun ls hl => ?_)
          refine pv_iinc (lv' := [(8, .int (iI (r + 1))), (7, .int (iI (1))), (9, .int (iI (RF r))), (0, .ref x0), (1, .ref z0), (2, .ref pp)]) hx hb dL_areAlike_235 hl (k := 2) rfl (by decide) rfl (fun ls hl => ?_)
          refine lv_goto (tgt := 167) hx hb dL_areAlike_238 (by decide) ?_
          exact ih (r + 1) ls (by omega) (by omega) (lv_sub hl [0, 1, 3, 4, 5] rfl)
        by_cases hm1 : RF r = -1
        · rw [if_pos hm1] at hrr
          refine pv_icmp_ne (tgt := 204) hx hb dL_areAlike_197 (by decide) (by omega) (fun c9 => False.elim (by omega)) (fun _ => ?_)
          refine pv_iconst hx hb dL_areAlike_200 ?_
          refine lv_goto (tgt := 208) hx hb dL_areAlike_201 (by decide) ?_
          rw [show iI (-1) = iI (RF2 r) from congrArg iI (hrr.symm)]
          exact hjoin ls (lv_sub hl [0, 1, 2, 3, 4, 5] rfl)
        · rw [if_neg hm1] at hrr
          have hx64 : 0 ≤ RF r ∧ RF r < 64 := by
            rcases hRI r (by omega) (by omega) with e9 | ⟨j, b1, b2, b3⟩
            · exact absurd e9 hm1
            · have d1 := hF j b1 b2; have d2 := hfc j b1 b2; omega
          refine pv_icmp_ne (tgt := 204) hx hb dL_areAlike_197 (by decide) (by omega) (fun _ => ?_) (fun c9 => False.elim (by omega))
          refine lv_aload_n hx hb dL_areAlike_204 rfl (lv_at hl 5 rfl) ?_
          refine lv_iload hx hb dL_areAlike_205 (lv_at hl 0 rfl) ?_
          refine pv_ald1 (v := RF2 r) hx hb hK hGP hx64 (by decide) ((hAp _ hx64.1 hx64.2).trans (congrArg iI hrr.symm)) dL_areAlike_207 ?_
          exact hjoin ls (lv_sub hl [0, 1, 2, 3, 4, 5] rfl)
      · skip
        refine lv_iload hx hb dL_areAlike_167 (lv_at hl 0 rfl) ?_
        refine pv_iconst hx hb dL_areAlike_169 ?_
        refine pv_icmp_ge (tgt := 241) hx hb dL_areAlike_170 (by decide) (by omega) (fun _ => ?_) (fun c9 => False.elim (by omega))
        refine lv_iload hx hb dL_areAlike_241 (lv_at hl 1 rfl) ?_
        exact pu_zret hx hb hr hlocks dL_areAlike_243 rfl (Or.inr rfl)
  have hfo : ∀ (fuel : Nat) (k mk : Int) (ls : Array Slot), n - k < fuel → 0 ≤ k ∧ k ≤ n → (-1 ≤ mk ∧ mk ≤ 255) → (k < n → mk < G2 k) → lv_has ls 10 [(3, .int (iI (fa F n k))), (4, .int (iI (fa F2 n k))), (5, .int (iI (k))), (6, .int (iI (mk))), (7, .int (iI (1))), (0, .ref x0), (1, .ref z0), (2, .ref pp)] → W p l e ({ frames := 4, cells := 0, slots := 0, locals := 88 } : Room) s m ([.ref x0, .ref z0, .ref pp] : List Value).toArray below meth c s.heap [] 0 0 (MQ below (pu_Q 1) ([.ref x0, .ref z0, .ref pp] : List Value).toArray s 0 0 (fun _ => False)) (F0 m 35 ls []) := by
    intro fuel
    induction fuel with
    | zero => intro k mk ls h1 h2; exfalso; omega
    | succ fuel ih =>
      intro k mk ls h1 h2 hmk hlt hl
      by_cases hkn : k < n
      · have hFk := hF k (by omega) hkn
        have hfk := hfc k (by omega) hkn
        have hF2k := hF2 k (by omega) hkn
        have hG2k := hG2 k (by omega) hkn
        have e1 := fa_in (F := F) (n := n) (v := k) ⟨by omega, hkn⟩
        have e2 := fa_in (F := F2) (n := n) (v := k) ⟨by omega, hkn⟩
        rw [e1, e2] at hl
        have hx64 : 0 ≤ F k ∧ F k < 64 := by omega
        have hltk := hlt hkn
        refine lv_iload hx hb dL_areAlike_35 (lv_at hl 4 rfl) ?_
        refine pv_if_eq (tgt := 132) hx hb dL_areAlike_37 (by decide) (by omega) (fun c9 => False.elim (by omega)) (fun _ => ?_)
        refine lv_iload_n hx hb dL_areAlike_40 rfl (lv_at hl 0 rfl) ?_
        refine pv_iconst hx hb dL_areAlike_41 ?_
        refine pv_icmp_eq (tgt := 132) hx hb dL_areAlike_42 (by decide) (by omega) (fun c9 => False.elim (by omega)) (fun _ => ?_)
        refine lv_iload hx hb dL_areAlike_45 (lv_at hl 2 rfl) ?_
        refine pv_bipush hx hb dL_areAlike_47 (by decide +kernel) ?_
        refine pv_icmp_ge (tgt := 132) hx hb dL_areAlike_49 (by decide) (by omega) (fun c9 => False.elim (by omega)) (fun _ => ?_)
        refine lv_aload_n hx hb dL_areAlike_52 rfl (lv_at hl 6 rfl) ?_
        refine pv_iconst hx hb dL_areAlike_53 ?_
        refine lv_iload hx hb dL_areAlike_54 (lv_at hl 1 rfl) ?_
        refine ar_call (v := G2 k) (As := [.ref z0, .int (iI (1)), .int (iI (F2 k))]) (rest := []) CP_mv ⟨hx, hb, hml, hown, hts⟩ (q_mark l D cI base st Z z0 z1 z2 z5 z6 z7 hn hF2 (F2 k) (by omega) k (PL_k hJ (by omega)) (by omega)) (vx_cwSW 3 hts gL_areAlike_L_asked rfl rfl rfl (by decide +kernel) ⟨(Nat.le_of_ble_eq_true rfl), (Nat.le_of_ble_eq_true rfl)⟩) ⟨hSW, hC2⟩ rfl rfl hl.1 (Nat.le_of_ble_eq_true rfl) dL_areAlike_56 ⟨Nat.zero_le _, Nat.zero_le _⟩ ?_
        refine lv_istore (lv' := [(8, .int (iI (G2 k))), (3, .int (iI (F k))), (4, .int (iI (F2 k))), (5, .int (iI (k))), (6, .int (iI (mk))), (7, .int (iI (1))), (0, .ref x0), (1, .ref z0), (2, .ref pp)]) hx hb dL_areAlike_59 hl (by decide) rfl (fun ls hl => ?_)
        refine lv_iload hx hb dL_areAlike_61 (lv_at hl 2 rfl) ?_
        refine lv_aload_n hx hb dL_areAlike_63 rfl (lv_at hl 8 rfl) ?_
        refine lv_iload_n hx hb dL_areAlike_64 rfl (lv_at hl 1 rfl) ?_
        refine pv_ald1 (v := F2 k) hx hb hK hGP hx64 (by decide) ((hAp _ hx64.1 hx64.2).trans (congrArg iI (hR.1 k (by omega) hkn).symm)) dL_areAlike_65 ?_
        refine pv_nesame (tgt := 103) hx hb dL_areAlike_66 (by decide) (rfl) ?_
        refine lv_aload_n hx hb dL_areAlike_69 rfl (lv_at hl 6 rfl) ?_
        refine pv_iconst hx hb dL_areAlike_70 ?_
        refine lv_iload_n hx hb dL_areAlike_71 rfl (lv_at hl 1 rfl) ?_
        refine ar_call (v := mb G n (G k)) (As := [.ref x0, .int (iI (2)), .int (iI (F k))]) (rest := []) CP_mv ⟨hx, hb, hml, hown, hts⟩ (q_ahead l D cI base st Z x0 x1 x2 x5 x6 x7 hn hF (F k) (by omega) k (PL_k hI (by omega)) (by omega) hG hs) (vx_cwSW 3 hts gL_areAlike_L_asked rfl rfl rfl (by decide +kernel) ⟨(Nat.le_of_ble_eq_true rfl), (Nat.le_of_ble_eq_true rfl)⟩) ⟨hSW, hC⟩ rfl rfl hl.1 (Nat.le_of_ble_eq_true rfl) dL_areAlike_72 ⟨Nat.zero_le _, Nat.zero_le _⟩ ?_
        rw [show iI (mb G n (G k)) = iI (k) from congrArg iI (mb_k hn.1 hs (by omega))]
        refine lv_iload hx hb dL_areAlike_75 (lv_at hl 3 rfl) ?_
        refine pv_nesame (tgt := 103) hx hb dL_areAlike_77 (by decide) (rfl) ?_
        refine lv_aload_n hx hb dL_areAlike_80 rfl (lv_at hl 7 rfl) ?_
        refine pv_iconst hx hb dL_areAlike_81 ?_
        refine lv_iload hx hb dL_areAlike_82 (lv_at hl 2 rfl) ?_
        refine ar_call (v := mb G2 n (G2 k)) (As := [.ref z0, .int (iI (2)), .int (iI (F2 k))]) (rest := []) CP_mv ⟨hx, hb, hml, hown, hts⟩ (q_ahead l D cI base st Z z0 z1 z2 z5 z6 z7 hn hF2 (F2 k) (by omega) k (PL_k hJ (by omega)) (by omega) hG2 hs2) (vx_cwSW 3 hts gL_areAlike_L_asked rfl rfl rfl (by decide +kernel) ⟨(Nat.le_of_ble_eq_true rfl), (Nat.le_of_ble_eq_true rfl)⟩) ⟨hSW, hC2⟩ rfl rfl hl.1 (Nat.le_of_ble_eq_true rfl) dL_areAlike_84 ⟨Nat.zero_le _, Nat.zero_le _⟩ ?_
        rw [show iI (mb G2 n (G2 k)) = iI (k) from congrArg iI (mb_k hn.1 hs2 (by omega))]
        refine lv_iload hx hb dL_areAlike_87 (lv_at hl 3 rfl) ?_
        refine pv_nesame (tgt := 103) hx hb dL_areAlike_89 (by decide) (rfl) ?_
        refine lv_iload hx hb dL_areAlike_92 (lv_at hl 0 rfl) ?_
        refine lv_iload hx hb dL_areAlike_94 (lv_at hl 4 rfl) ?_
        refine pv_icmp_le (tgt := 103) hx hb dL_areAlike_96 (by decide) (by omega) (fun c9 => False.elim (by omega)) (fun _ => ?_)
        refine pv_iconst hx hb dL_areAlike_99 ?_
        refine lv_goto (tgt := 104) hx hb dL_areAlike_100 (by decide) ?_
        refine lv_istore (lv' := [(7, .int (iI (1))), (8, .int (iI (G2 k))), (3, .int (iI (F k))), (4, .int (iI (F2 k))), (5, .int (iI (k))), (6, .int (iI (mk))), (0, .ref x0), (1, .ref z0), (2, .ref pp)]) hx hb dL_areAlike_104 hl (by decide) rfl (fun ls hl => ?_)
        refine lv_iload hx hb dL_areAlike_106 (lv_at hl 1 rfl) ?_
        refine lv_istore (lv' := [(6, .int (iI (G2 k))), (7, .int (iI (1))), (8, .int (iI (G2 k))), (3, .int (iI (F k))), (4, .int (iI (F2 k))), (5, .int (iI (k))), (0, .ref x0), (1, .ref z0), (2, .ref pp)]) hx hb dL_areAlike_108 hl (by decide) rfl (fun ls hl => ?_)
        refine lv_aload_n hx hb dL_areAlike_110 rfl (lv_at hl 6 rfl) ?_
        refine pv_iconst hx hb dL_areAlike_111 ?_
        refine lv_iload_n hx hb dL_areAlike_112 rfl (lv_at hl 3 rfl) ?_
        refine ar_call (v := fa F n (k + 1)) (As := [.ref x0, .int (iI (0)), .int (iI (F k))]) (rest := []) CP_mv ⟨hx, hb, hml, hown, hts⟩ (q_next l D cI base st Z x0 x1 x2 x5 x6 x7 hn hF (F k) (by omega) k (PL_k hI (by omega)) (by omega) _ rfl) (vx_cwSW 3 hts gL_areAlike_L_asked rfl rfl rfl (by decide +kernel) ⟨(Nat.le_of_ble_eq_true rfl), (Nat.le_of_ble_eq_true rfl)⟩) ⟨hSW, hC⟩ rfl rfl hl.1 (Nat.le_of_ble_eq_true rfl) dL_areAlike_113 ⟨Nat.zero_le _, Nat.zero_le _⟩ ?_
        refine lv_istore_n (lv' := [(3, .int (iI (fa F n (k + 1)))), (6, .int (iI (G2 k))), (7, .int (iI (1))), (8, .int (iI (G2 k))), (4, .int (iI (F2 k))), (5, .int (iI (k))), (0, .ref x0), (1, .ref z0), (2, .ref pp)]) hx hb dL_areAlike_116 rfl hl (by decide) rfl (fun ls hl => ?_)
        refine lv_aload_n hx hb dL_areAlike_117 rfl (lv_at hl 7 rfl) ?_
        refine pv_iconst hx hb dL_areAlike_118 ?_
        refine lv_iload hx hb dL_areAlike_119 (lv_at hl 4 rfl) ?_
        refine ar_call (v := fa F2 n (k + 1)) (As := [.ref z0, .int (iI (0)), .int (iI (F2 k))]) (rest := []) CP_mv ⟨hx, hb, hml, hown, hts⟩ (q_next l D cI base st Z z0 z1 z2 z5 z6 z7 hn hF2 (F2 k) (by omega) k (PL_k hJ (by omega)) (by omega) _ rfl) (vx_cwSW 3 hts gL_areAlike_L_asked rfl rfl rfl (by decide +kernel) ⟨(Nat.le_of_ble_eq_true rfl), (Nat.le_of_ble_eq_true rfl)⟩) ⟨hSW, hC2⟩ rfl rfl hl.1 (Nat.le_of_ble_eq_true rfl) dL_areAlike_121 ⟨Nat.zero_le _, Nat.zero_le _⟩ ?_
        refine lv_istore (lv' := [(4, .int (iI (fa F2 n (k + 1)))), (3, .int (iI (fa F n (k + 1)))), (6, .int (iI (G2 k))), (7, .int (iI (1))), (8, .int (iI (G2 k))), (5, .int (iI (k))), (0, .ref x0), (1, .ref z0), (2, .ref pp)]) hx hb dL_areAlike_124 hl (by decide) rfl (fun ls hl => ?_)
        refine pv_iinc (lv' := [(5, .int (iI (k + 1))), (4, .int (iI (fa F2 n (k + 1)))), (3, .int (iI (fa F n (k + 1)))), (6, .int (iI (G2 k))), (7, .int (iI (1))), (8, .int (iI (G2 k))), (0, .ref x0), (1, .ref z0), (2, .ref pp)]) hx hb dL_areAlike_126 hl (k := 5) rfl (by decide) rfl (fun ls hl => ?_)
        refine lv_goto (tgt := 35) hx hb dL_areAlike_129 (by decide) ?_
        exact ih (k + 1) (G2 k) ls (by omega) (by omega) (by omega) (fun h9 => hs2 k (k + 1) (by omega) (by omega) h9) (lv_sub hl [2, 1, 0, 3, 4, 6, 7, 8] rfl)
      · have e1 := fa_out (F := F) (n := n) (v := k) (fun z => hkn z.2)
        have e2 := fa_out (F := F2) (n := n) (v := k) (fun z => hkn z.2)
        rw [e1, e2] at hl
        refine lv_iload hx hb dL_areAlike_35 (lv_at hl 4 rfl) ?_
        refine pv_if_eq (tgt := 132) hx hb dL_areAlike_37 (by decide) (by omega) (fun c9 => False.elim (by omega)) (fun _ => ?_)
        refine lv_iload_n hx hb dL_areAlike_40 rfl (lv_at hl 0 rfl) ?_
        refine pv_iconst hx hb dL_areAlike_41 ?_
        refine pv_icmp_eq (tgt := 132) hx hb dL_areAlike_42 (by decide) (by omega) (fun _ => ?_) (fun c9 => False.elim (by omega))
        refine lv_iload hx hb dL_areAlike_132 (lv_at hl 4 rfl) ?_
        refine pv_if_eq (tgt := 161) hx hb dL_areAlike_134 (by decide) (by omega) (fun c9 => False.elim (by omega)) (fun _ => ?_)
        refine lv_iload_n hx hb dL_areAlike_137 rfl (lv_at hl 0 rfl) ?_
        refine pv_iconst hx hb dL_areAlike_138 ?_
        refine pv_icmp_ne (tgt := 161) hx hb dL_areAlike_139 (by decide) (by omega) (fun c9 => False.elim (by omega)) (fun _ => ?_)
        refine lv_iload hx hb dL_areAlike_142 (lv_at hl 1 rfl) ?_
        refine pv_iconst hx hb dL_areAlike_144 ?_
        refine pv_icmp_ne (tgt := 161) hx hb dL_areAlike_145 (by decide) (by omega) (fun c9 => False.elim (by omega)) (fun _ => ?_)
        refine lv_iload hx hb dL_areAlike_148 (lv_at hl 2 rfl) ?_
        refine lv_aload_n hx hb dL_areAlike_150 rfl (lv_at hl 5 rfl) ?_
        refine pu_callV (v := n) (As := []) (rest := [.int (iI (k))]) CP_mv ⟨hx, hb, hml, hown, hts⟩ (c_size l D cI base st Z x0 x1 x2 x5 x6 x7 hn) (cwV 0 hts gL_areAlike_X0_size rfl rfl rfl (by decide +kernel) ⟨(Nat.le_of_ble_eq_true rfl), (Nat.le_of_ble_eq_true rfl)⟩) ⟨hSW, hC⟩ (CP_rc ⟨hSW, hC⟩) rfl rfl hl.1 (Nat.le_of_ble_eq_true rfl) dL_areAlike_151 ⟨Nat.zero_le _, Nat.zero_le _⟩ ?_
        refine pv_nesame (tgt := 161) hx hb dL_areAlike_154 (by decide) (show k = n by omega) ?_
        refine pv_iconst hx hb dL_areAlike_157 ?_
        refine lv_goto (tgt := 162) hx hb dL_areAlike_158 (by decide) ?_
        refine lv_istore (lv' := [(7, .int (iI (1))), (3, .int (iI (-1))), (4, .int (iI (-1))), (5, .int (iI (k))), (6, .int (iI (mk))), (0, .ref x0), (1, .ref z0), (2, .ref pp)]) hx hb dL_areAlike_162 hl (by decide) rfl (fun ls hl => ?_)
        refine pv_iconst hx hb dL_areAlike_164 ?_
        refine lv_istore (lv' := [(8, .int (iI (0))), (7, .int (iI (1))), (3, .int (iI (-1))), (4, .int (iI (-1))), (5, .int (iI (k))), (6, .int (iI (mk))), (0, .ref x0), (1, .ref z0), (2, .ref pp)]) hx hb dL_areAlike_165 hl (by decide) rfl (fun ls hl => ?_)
        exact hrd 5 0 ls (by omega) (by omega) (lv_sub hl [0, 1, 6, 7, 8] rfl)
  exact hfo (n.toNat + 1) 0 (-1) ls (by omega) (by omega) (by omega) (fun h9 => by have := hG2 0 (by omega) h9; omega) (lv_sub hl [4, 3, 2, 1, 0, 5, 6, 7] rfl)
