set_option maxHeartbeats 4000000 in
set_option maxRecDepth 100000 in
theorem whole_start {p : Program} {e : Env} {s : State} {m : MethodId} {below : List Frame} {meth : Method} {c : Code} (l : Launch) (hflags : l.flags = flags0) {b L : Nat} {xs : Nat → Int32} (hL : L ≤ 260) (C0 : lw_At p s m meth c b L xs) : W p l e room_1 s m #[Value.ref b] below meth c s.heap [] 0 0 (lw_Z below #[Value.ref b] s) (entryFrame m ([Value.ref b] : List Value).toArray 7) := by
  obtain ⟨D, cI, st, Z, hSW0, hnc1, hnc2⟩ := start_SW C0
  have hfl : l.stackTraces = false := by unfold Launch.stackTraces; rw [hflags]; decide +kernel
  obtain ⟨hx, hb, hr, hml, hown, hts0, hX, hbl, hlocks, hgv⟩ := id C0
  have hts : ∀ w ∈ wsL_law, w.before #[Value.ref b] s = true := fun w h => hts0 w (wsL_law_in w h)
  have hS : va_S (fun q : Nat => s.heap.size ≤ q) s.heap s.heap [] := va_S.rf
  have hl := lv_entry ([.ref b]) (n := 7) (Nat.le_of_ble_eq_true rfl)
  rw [lg_entry_eq]
  generalize (lg_sl ([.ref b]) ++ List.replicate (7 - (lg_sl ([.ref b])).length) Slot.unset).toArray = ls at hl ⊢
  have hl : lv_has ls 7 [(0, .ref b)] := hl
  have hP0 : ∀ H : Heap, va_P D vwCl [] H := fun H k q h => by simp at h
  have hD0 : ∀ A : Nat → Prop, va_D A [] := fun A => ⟨fun i j p q h => by simp at h, fun k q h => by simp at h⟩
  refine va_new (ci := 0) (fs := [.null, .null, .int (iI 0), .int (iI 0), .int (iI 0), .null, .null, .null]) (C := RX0) (T := TX0) (N := 8) (A := fun q : Nat => (s.heap : Heap).size ≤ q) hx hb hts0 inX0 tyX0 tyX0_ok hown (hts0 (.classLink RL 10 RX0) (by decide +kernel)) (hts0 (.instantiable RX0 8) (by decide +kernel)) (hts0 (.initialized RX0) (by decide +kernel)) hSW0.1 (hP0 _) (hD0 _) (va_S.rf (H0 := s.heap)) (fun q h => h) rfl (fun j hj => by rcases (show j = 0 ∨ j = 1 ∨ j = 2 ∨ j = 3 ∨ j = 4 ∨ j = 5 ∨ j = 6 ∨ j = 7 by omega) with rfl | rfl | rfl | rfl | rfl | rfl | rfl | rfl <;> first | rfl | (show Value.int 0 = Value.int (iI 0); rw [iI_0])) (Nat.le_of_ble_eq_true rfl) (Nat.le_of_ble_eq_true rfl) dL_law_0 (fun x0 H1 hPx0 hDx0 hSx0 => ?_)
  have hPx0 : va_P D vwCl [(x0, .inr (0, [.null, .null, .int (iI 0), .int (iI 0), .int (iI 0), .null, .null, .null]))] H1 := hPx0
  have hbx : s.heap.size ≤ x0 := hDx0.2 0 _ rfl
  have hS1 : va_S (fun q : Nat => s.heap.size ≤ q) s.heap H1 [] := va_S_step hS hSx0
  refine W.widen (k := 1) (n := 8) (by omega) (by omega) ?_
  refine lv_dup hx hb dL_law_3 rfl ?_
  have hSW1 := hSW0.keep (fun q h => hS1.2.1 q h (Nat.not_le.mpr h))
  refine in_callI (b := x0) (As := []) (rest := [.ref x0]) IP0_mv ⟨hx, hb, hml, hown, hts⟩ (c_init l D cI s.heap.size st Z x0 H1.size) (cwI 0 hts gL_law_X0_init rfl rfl rfl (hts (.initialized RX0) (by decide +kernel)) (hts (.methodLink RL 73 yX0_init) (by decide +kernel)) (hts (.instanceMethod yX0_init) (by decide +kernel)) rfl (by decide +kernel) ⟨Nat.le_of_ble_eq_true rfl, Nat.le_of_ble_eq_true rfl⟩) ⟨hSW1, hPx0, rfl, hbx⟩ rfl rfl hl.1 (Nat.le_of_ble_eq_true rfl) dL_law_4 ⟨Nat.le_of_ble_eq_true rfl, Nat.le_of_ble_eq_true rfl⟩ hS1 (fun q h => by rcases h with h | h; exact h ▸ hbx; exact Nat.le_trans hS1.1 h) (fun H2 locs hP2 hz2 hk2 hS2 => ?_)
  obtain ⟨x1, x2, x5, x6, x7, hC2, hm2⟩ := hP2
  refine va_forget (fun q hq => hS2.2.2 q hq) ?_
  have hS2 := va_S_nil hS2
  refine W.widen (k := 6) (n := 145) (by omega) (by omega) ?_
  refine lv_astore_n (lv' := [(1, .ref x0), (0, .ref b)]) hx hb dL_law_7 rfl hl (by decide) rfl (fun ls hl => ?_)
  refine va_new (ci := 0) (fs := [.null, .null, .int (iI 0), .int (iI 0), .int (iI 0), .null, .null, .null]) (C := RX0) (T := TX0) (N := 8) (A := fun q : Nat => (H2 : Heap).size ≤ q) hx hb hts0 inX0 tyX0 tyX0_ok hown (hts0 (.classLink RL 10 RX0) (by decide +kernel)) (hts0 (.instantiable RX0 8) (by decide +kernel)) (hts0 (.initialized RX0) (by decide +kernel)) hSW0.1 (hP0 _) (hD0 _) (va_S.rf (H0 := H2)) (fun q h => h) rfl (fun j hj => by rcases (show j = 0 ∨ j = 1 ∨ j = 2 ∨ j = 3 ∨ j = 4 ∨ j = 5 ∨ j = 6 ∨ j = 7 by omega) with rfl | rfl | rfl | rfl | rfl | rfl | rfl | rfl <;> first | rfl | (show Value.int 0 = Value.int (iI 0); rw [iI_0])) (Nat.le_of_ble_eq_true rfl) (Nat.le_of_ble_eq_true rfl) dL_law_8 (fun z0 H3 hPz0 hDz0 hSz0 => ?_)
  have hPz0 : va_P D vwCl [(z0, .inr (0, [.null, .null, .int (iI 0), .int (iI 0), .int (iI 0), .null, .null, .null]))] H3 := hPz0
  have hby2 : H2.size ≤ z0 := hDz0.2 0 _ rfl
  have hby : s.heap.size ≤ z0 := Nat.le_trans hS2.1 hby2
  have hS3 : va_S (fun q : Nat => s.heap.size ≤ q) s.heap H3 [] := va_S_step hS2 hSz0
  have hC3 := CW_fr hC2 (fun q h1 h2 => hSz0.2.1 q h1 h2) (fun q h => Nat.not_le.mpr (CW_mlt hC2 q h))
  refine W.widen (k := 7) (n := 153) (by omega) (by omega) ?_
  refine lv_dup hx hb dL_law_11 rfl ?_
  have hSW3 := hSW0.keep (fun q h => hS3.2.1 q h (Nat.not_le.mpr h))
  refine in_callI (b := z0) (As := []) (rest := [.ref z0]) IP0_mv ⟨hx, hb, hml, hown, hts⟩ (c_init l D cI s.heap.size st Z z0 H3.size) (cwI 0 hts gL_law_X0_init rfl rfl rfl (hts (.initialized RX0) (by decide +kernel)) (hts (.methodLink RL 73 yX0_init) (by decide +kernel)) (hts (.instanceMethod yX0_init) (by decide +kernel)) rfl (by decide +kernel) ⟨Nat.le_of_ble_eq_true rfl, Nat.le_of_ble_eq_true rfl⟩) ⟨hSW3, hPz0, rfl, hby⟩ rfl rfl hl.1 (Nat.le_of_ble_eq_true rfl) dL_law_12 ⟨Nat.le_of_ble_eq_true rfl, Nat.le_of_ble_eq_true rfl⟩ hS3 (fun q h => by rcases h with h | h; exact h ▸ hby; exact Nat.le_trans hS3.1 h) (fun H4 locs hP2 hz2 hk2 hS4 => ?_)
  obtain ⟨z1, z2, z5, z6, z7, hD4, hm4⟩ := hP2
  refine va_forget (fun q hq => hS4.2.2 q hq) ?_
  have hS4 := va_S_nil hS4
  have hxl : ∀ q, mC x0 x1 x2 x5 x6 x7 q → ¬ (q = z0 ∨ H3.size ≤ q) := fun q h y => by
    have h1 := CW_mlt hC2 q h
    have h2 := hSz0.1
    rcases y with y | y <;> omega
  have hC4 := CW_fr hC3 hk2 hxl
  refine W.widen (k := 12) (n := 290) (by omega) (by omega) ?_
  refine lv_astore_n (lv' := [(2, .ref z0), (1, .ref x0), (0, .ref b)]) hx hb dL_law_15 rfl hl (by decide) rfl (fun ls hl => ?_)
  refine pv_bipush hx hb dL_law_16 (by decide +kernel) ?_
  refine pv_newa (A := fun q : Nat => H4.size ≤ q) (k9 := 64) (N2 := 64) (atype := .int) (ty := .int) (a0 := (64, .inl (fun _ => iI 0))) hx hb (hts (.arrayClass .int) (by decide +kernel)) rfl hSW0.1 0 rfl (fun U k h => h) (hP0 _) (hD0 _) (va_S.rf (H0 := H4)) (fun q h => h) (fun cA => by rw [iI_0]; rfl) (by omega) rfl (Nat.le_of_ble_eq_true rfl) (Nat.le_of_ble_eq_true rfl) (Nat.le_of_ble_eq_true rfl) dL_law_18 (fun pp H5 hPp hDp hSp => ?_)
  have hob4 : H4.size ≤ pp := hDp.2 0 _ rfl
  have hO : OP D cI pp (fun _ => 0) H5 := ⟨_, fun k _ _ => rfl, hPp⟩
  have hS5 : va_S (fun q : Nat => s.heap.size ≤ q) s.heap H5 [] := va_S_step hS4 hSp
  have hC5 := CW_fr hC4 (fun q h1 h2 => hSp.2.1 q h1 h2) (fun q h => Nat.not_le.mpr (CW_mlt hC4 q h))
  have hD5 := CW_fr hD4 (fun q h1 h2 => hSp.2.1 q h1 h2) (fun q h => Nat.not_le.mpr (CW_mlt hD4 q h))
  have hDJ : DJ s.heap.size x0 x1 x2 x5 x6 x7 z0 z1 z2 z5 z6 z7 pp := ⟨fun q h y => hxl q h (hm4 q y), fun h => absurd (CW_mlt hC4 pp h) (Nat.not_lt.mpr hob4), fun h => absurd (CW_mlt hD4 pp h) (Nat.not_lt.mpr hob4), Nat.le_trans hS4.1 hob4⟩
  refine W.widen (k := 13 + 3 * 0) (n := 354 + 14 * 0) (by omega) (by omega) ?_
  refine lv_astore_n (lv' := [(3, .ref pp), (2, .ref z0), (1, .ref x0), (0, .ref b)]) hx hb dL_law_20 rfl hl (by decide) rfl (fun ls hl => ?_)
  refine pv_iconst hx hb dL_law_21 ?_
  refine lv_istore (lv' := [(4, .int (iI 1)), (3, .ref pp), (2, .ref z0), (1, .ref x0), (0, .ref b)]) hx hb dL_law_22 hl (by decide) rfl (fun ls hl => ?_)
  refine pv_iconst hx hb dL_law_24 ?_
  refine lv_istore (lv' := [(5, .int (iI 0)), (4, .int (iI 1)), (3, .ref pp), (2, .ref z0), (1, .ref x0), (0, .ref b)]) hx hb dL_law_25 hl (by decide) rfl (fun ls hl => ?_)
  exact law_loop l hfl hL C0 hSW0 hnc1 hnc2 hDJ (CW_b hD5) (CW_b hC5) 61 0 H5 ls (by omega) (by omega) ⟨0, 0, 0, _, _, _, _, _, 0, 0, _, _, _, _, _, _, hC5, hD5, hO, INV_0, INV_0, ⟨fun j h0 h1 => by omega, fun r _ _ => rfl, fun r _ _ => rfl⟩, by omega, by omega, by omega⟩ hS5 (lv_sub hl [5, 4, 3, 2, 1, 0] rfl)
