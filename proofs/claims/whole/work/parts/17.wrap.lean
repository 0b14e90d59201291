set_option maxHeartbeats 4000000 in
set_option maxRecDepth 100000 in
theorem w_putFirst (l : Launch) (D : va_G) (cI cZ cJ : ClassId) (base st : Nat) (Z : Nat → Nat) (x0 x1 x2 x5 x6 x7 o : Nat) {n came MV : Int} {F G SP RF RC : Int → Int} (hn : 0 ≤ n ∧ n < 60) (hG : ∀ k : Int, 0 ≤ k → k < n → 0 ≤ G k ∧ G k ≤ 255) (hs : SD G n) (hcm : 0 ≤ came ∧ came < 200) (G2 : Int → Int) (dm : Int) (SP2 : Int → Int) (hPT : PT G n 0 SP G2 dm SP2) : wr_M l yL_putFirst wsL_putFirst ({ frames := 7, cells := 0, slots := 0, locals := 160 } : Room) [.ref x0, .ref o] (WP D cI cZ cJ base st Z x0 x1 x2 x5 x6 x7 o n came MV F G SP RF RC) 0 (fun H => (fun H => CW D cI base x0 x1 x2 x5 x6 x7 (n + 1) (came + 1) (MV + dm) (insF F 0 came) (G2) (SP2) (RF) (RC) H) H ∧ ∃ lf, lf 0 = (iI (came)).toInt64 ∧ OC D cJ o lf H) (mO x0 x1 x2 x5 x6 x7 o) 0 0 := by
  refine wr_of (cc := cL_putFirst) (maxL := 3) (ret := (some .int)) (own := RL) (hh := [(0, 8, 11, 13)]) (by decide) rfl rfl (Nat.le_of_ble_eq_true rfl) ?_
  intro p e s m below meth c ls B hTab hWP hl hS
  obtain ⟨hx, hb, hml, hr, hts, hown, hlocks⟩ := B
  obtain ⟨hCP, hKJ, ⟨lf, hPo⟩, hoC, hnc1, hnc2⟩ := hWP
  have hl : lv_has ls 3 [(0, .ref x0), (1, .ref o)] := hl
  refine lv_aload_n hx hb dL_putFirst_0 rfl (lv_at hl 1 rfl) ?_
  refine pv_iconst hx hb dL_putFirst_1 ?_
  refine lv_aload_n hx hb dL_putFirst_2 rfl (lv_at hl 0 rfl) ?_
  refine mu_callV (As := []) (rest := [.int (iI 0), .ref o]) CP_mv ⟨hx, hb, hml, hown, hts⟩ (c_putFirst l D cI cZ base st Z x0 x1 x2 x5 x6 x7 hn hG hs hcm G2 dm SP2 hPT) (cwV 0 hts gL_putFirst_X0_putFirst rfl rfl rfl (by decide +kernel) ⟨(Nat.le_of_ble_eq_true rfl), (Nat.le_of_ble_eq_true rfl)⟩) hCP (CP_rc hCP) rfl rfl hl.1 (Nat.le_of_ble_eq_true rfl) dL_putFirst_3 ⟨Nat.zero_le _, Nat.zero_le _⟩ hS (fun q h => Or.inl h) (fun H locs hC9 hz9 hk9 hS => ?_)
  have hPo := OC_fr hPo hk9 hoC
  refine lv_i2l (v := (iI (came)).toInt64) hx hb dL_putFirst_6 rfl ?_
  refine pv_last (v := (iI (came)).toInt64) hx hb hKJ hPo hS (Or.inr rfl) dL_putFirst_7 (fun H1 locs1 lf2 hv2 hPo2 hz2 hk2 hS => ?_)
  refine lv_goto (tgt := 14) hx hb dL_putFirst_8 (by decide) ?_
  refine pv_iconst hx hb dL_putFirst_14 ?_
  exact wr_iret hx hb hr hlocks hS dL_putFirst_15 rfl ⟨CW_fr (A := fun q => q = o) hC9 (fun q _ h => hk2 q h) (fun q h z => hoC (by rw [← z]; exact h)), lf2, hv2, hPo2⟩
set_option maxHeartbeats 4000000 in
set_option maxRecDepth 100000 in
theorem v_putFirst (l : Launch) (D : va_G) (cI cZ cJ : ClassId) (base st : Nat) (Z : Nat → Nat) (x0 x1 x2 x5 x6 x7 o : Nat) {n came MV : Int} {F G SP RF RC : Int → Int} (hfl : l.stackTraces = false) (hn : 0 ≤ n ∧ n ≤ 60) (hcm : 0 ≤ came ∧ came ≤ 200) (hfr : ¬ (came < 200 ∧ n < 60)) : wr_M l yL_putFirst wsL_putFirst ({ frames := 8, cells := 1, slots := 6, locals := 133 } : Room) [.ref x0, .ref o] (WP D cI cZ cJ base st Z x0 x1 x2 x5 x6 x7 o n came MV F G SP RF RC) 1 (fun H => CW D cI base x0 x1 x2 x5 x6 x7 n came MV F G SP RF RC H ∧ ∃ lf, OC D cJ o lf H) (mO x0 x1 x2 x5 x6 x7 o) 1 6 := by
  refine wr_of (cc := cL_putFirst) (maxL := 3) (ret := (some .int)) (own := RL) (hh := [(0, 8, 11, 13)]) (by decide) rfl rfl (Nat.le_of_ble_eq_true rfl) ?_
  intro p e s m below meth c ls B hTab hWP hl hS
  obtain ⟨hx, hb, hml, hr, hts, hown, hlocks⟩ := B
  obtain ⟨hCP, hKJ, ⟨lf, hPo⟩, hoC, hnc1, hnc2⟩ := hWP
  have hl : lv_has ls 3 [(0, .ref x0), (1, .ref o)] := hl
  refine lv_aload_n hx hb dL_putFirst_0 rfl (lv_at hl 1 rfl) ?_
  refine pv_iconst hx hb dL_putFirst_1 ?_
  refine lv_aload_n hx hb dL_putFirst_2 rfl (lv_at hl 0 rfl) ?_
  refine th_callV (As := []) (rest := [.int (iI 0), .ref o]) CP_mv ⟨hx, hb, hml, hown, hts⟩ (t_putFirst l D cI cZ base st Z x0 x1 x2 x5 x6 x7 hfl hn hcm hfr) (cwV 0 hts gL_putFirst_X0_putFirst rfl rfl rfl (by decide +kernel) ⟨(Nat.le_of_ble_eq_true rfl), (Nat.le_of_ble_eq_true rfl)⟩) hCP (CP_rc hCP) rfl rfl hl.1 (Nat.le_of_ble_eq_true rfl) dL_putFirst_3 ⟨(Nat.le_of_ble_eq_true rfl), (Nat.le_of_ble_eq_true rfl)⟩ (fun H1 ce q9 h1 h2 h3 h4 h5 => ?_)
  obtain ⟨hK, hZL, hst9, hTW⟩ := id hCP.1
  obtain ⟨tw0, tw1, tw2, tw3, tw4, tw5, kw0, kw1, kw2, kd0, kd1, kd2, hU9, hN9⟩ := hTW
  refine vx_catch (own := RL) (name := "java/lang/IllegalStateException") hown [] ⟨0, 8, 11, 13⟩ [] (hTab.trans rfl) (fun z hz => by cases hz) rfl (by decide) (hts (.classLink RL 13 "java/lang/IllegalStateException") (by decide +kernel)) (va_Nw.use rfl kw1) h3 h4 h5 ?_
  show W p l e _ s m _ below meth c H1 [] (0 + 1) (0 + 6) _ (F0 m 11 ls [.ref q9])
  refine lv_astore_n (lv' := [(2, .ref q9), (0, .ref x0), (1, .ref o)]) hx hb dL_putFirst_11 rfl hl (by decide) rfl (fun ls hl => ?_)
  refine pv_iconst hx hb dL_putFirst_12 ?_
  have hk : ∀ q : Nat, q < s.heap.size → ¬ (fun _ => False) q → H1[q]? = s.heap[q]? := fun q a _ => h2 q a
  exact wr_iret hx hb hr hlocks ⟨h1, fun q a _ => h2 q a, fun _ h => by cases h⟩ dL_putFirst_13 rfl ⟨CW_fr hCP.2 hk (fun _ _ h => h), lf, OC_fr hPo hk (fun h => h)⟩
set_option maxHeartbeats 4000000 in
set_option maxRecDepth 100000 in
theorem w_putBehind (l : Launch) (D : va_G) (cI cZ cJ : ClassId) (base st : Nat) (Z : Nat → Nat) (x0 x1 x2 x5 x6 x7 o : Nat) {n came MV : Int} {F G SP RF RC : Int → Int} (hn : 0 ≤ n ∧ n < 60) (hF : ∀ k : Int, 0 ≤ k → k < n → 0 ≤ F k ∧ F k < 200) (hG : ∀ k : Int, 0 ≤ k → k < n → 0 ≤ G k ∧ G k ≤ 255) (hs : SD G n) (hcm : 0 ≤ came ∧ came < 200) (x : Int) (hxr : (-2147483648 ≤ x ∧ x ≤ 2147483647)) (rp : Int) (hrp : PL F n x rp) (h0 : 0 ≤ rp) (G2 : Int → Int) (dm : Int) (SP2 : Int → Int) (hPT : PT G n (rp + 1) SP G2 dm SP2) : wr_M l yL_putBehind wsL_putBehind ({ frames := 7, cells := 0, slots := 0, locals := 162 } : Room) [.ref x0, .int (iI (x)), .ref o] (WP D cI cZ cJ base st Z x0 x1 x2 x5 x6 x7 o n came MV F G SP RF RC) 0 (fun H => (fun H => CW D cI base x0 x1 x2 x5 x6 x7 (n + 1) (came + 1) (MV + dm) (insF F (rp + 1) came) (G2) (SP2) (RF) (RC) H) H ∧ ∃ lf, lf 0 = (iI (came)).toInt64 ∧ OC D cJ o lf H) (mO x0 x1 x2 x5 x6 x7 o) 0 0 := by
  refine wr_of (cc := cL_putBehind) (maxL := 4) (ret := (some .int)) (own := RL) (hh := [(0, 9, 12, 19), (0, 9, 15, 13)]) (by decide) rfl rfl (Nat.le_of_ble_eq_true rfl) ?_
  intro p e s m below meth c ls B hTab hWP hl hS
  obtain ⟨hx, hb, hml, hr, hts, hown, hlocks⟩ := B
  obtain ⟨hCP, hKJ, ⟨lf, hPo⟩, hoC, hnc1, hnc2⟩ := hWP
  have hl : lv_has ls 4 [(0, .ref x0), (1, .int (iI (x))), (2, .ref o)] := hl
  refine lv_aload_n hx hb dL_putBehind_0 rfl (lv_at hl 2 rfl) ?_
  refine pv_iconst hx hb dL_putBehind_1 ?_
  refine lv_aload_n hx hb dL_putBehind_2 rfl (lv_at hl 0 rfl) ?_
  refine lv_iload_n hx hb dL_putBehind_3 rfl (lv_at hl 1 rfl) ?_
  refine mu_callV (As := [.int (iI (x))]) (rest := [.int (iI 0), .ref o]) CP_mv ⟨hx, hb, hml, hown, hts⟩ (c_putBehind l D cI cZ base st Z x0 x1 x2 x5 x6 x7 hn hF hG hs hcm x hxr rp hrp h0 G2 dm SP2 hPT) (cwV 1 hts gL_putBehind_X0_putBehind rfl rfl rfl (by decide +kernel) ⟨(Nat.le_of_ble_eq_true rfl), (Nat.le_of_ble_eq_true rfl)⟩) hCP (CP_rc hCP) rfl rfl hl.1 (Nat.le_of_ble_eq_true rfl) dL_putBehind_4 ⟨Nat.zero_le _, Nat.zero_le _⟩ hS (fun q h => Or.inl h) (fun H locs hC9 hz9 hk9 hS => ?_)
  have hPo := OC_fr hPo hk9 hoC
  refine lv_i2l (v := (iI (came)).toInt64) hx hb dL_putBehind_7 rfl ?_
  refine pv_last (v := (iI (came)).toInt64) hx hb hKJ hPo hS (Or.inr rfl) dL_putBehind_8 (fun H1 locs1 lf2 hv2 hPo2 hz2 hk2 hS => ?_)
  refine lv_goto (tgt := 18) hx hb dL_putBehind_9 (by decide) ?_
  refine pv_iconst hx hb dL_putBehind_18 ?_
  exact wr_iret hx hb hr hlocks hS dL_putBehind_19 rfl ⟨CW_fr (A := fun q => q = o) hC9 (fun q _ h => hk2 q h) (fun q h z => hoC (by rw [← z]; exact h)), lf2, hv2, hPo2⟩
set_option maxHeartbeats 4000000 in
set_option maxRecDepth 100000 in
theorem v_putBehind (l : Launch) (D : va_G) (cI cZ cJ : ClassId) (base st : Nat) (Z : Nat → Nat) (x0 x1 x2 x5 x6 x7 o : Nat) {n came MV : Int} {F G SP RF RC : Int → Int} (hfl : l.stackTraces = false) (hn : 0 ≤ n ∧ n ≤ 60) (hF : ∀ k : Int, 0 ≤ k → k < n → 0 ≤ F k ∧ F k < 200) (x : Int) (hxr : (-2147483648 ≤ x ∧ x ≤ 2147483647)) (hrp : PL F n x (-1)) : wr_M l yL_putBehind wsL_putBehind ({ frames := 8, cells := 1, slots := 6, locals := 137 } : Room) [.ref x0, .int (iI (x)), .ref o] (WP D cI cZ cJ base st Z x0 x1 x2 x5 x6 x7 o n came MV F G SP RF RC) 1 (fun H => CW D cI base x0 x1 x2 x5 x6 x7 n came MV F G SP RF RC H ∧ ∃ lf, OC D cJ o lf H) (mO x0 x1 x2 x5 x6 x7 o) 1 6 := by
  refine wr_of (cc := cL_putBehind) (maxL := 4) (ret := (some .int)) (own := RL) (hh := [(0, 9, 12, 19), (0, 9, 15, 13)]) (by decide) rfl rfl (Nat.le_of_ble_eq_true rfl) ?_
  intro p e s m below meth c ls B hTab hWP hl hS
  obtain ⟨hx, hb, hml, hr, hts, hown, hlocks⟩ := B
  obtain ⟨hCP, hKJ, ⟨lf, hPo⟩, hoC, hnc1, hnc2⟩ := hWP
  have hl : lv_has ls 4 [(0, .ref x0), (1, .int (iI (x))), (2, .ref o)] := hl
  refine lv_aload_n hx hb dL_putBehind_0 rfl (lv_at hl 2 rfl) ?_
  refine pv_iconst hx hb dL_putBehind_1 ?_
  refine lv_aload_n hx hb dL_putBehind_2 rfl (lv_at hl 0 rfl) ?_
  refine lv_iload_n hx hb dL_putBehind_3 rfl (lv_at hl 1 rfl) ?_
  refine th_callV (As := [.int (iI (x))]) (rest := [.int (iI 0), .ref o]) CP_mv ⟨hx, hb, hml, hown, hts⟩ (t_putBehind l D cI cZ base st Z x0 x1 x2 x5 x6 x7 hfl hn hF x hxr hrp) (cwV 1 hts gL_putBehind_X0_putBehind rfl rfl rfl (by decide +kernel) ⟨(Nat.le_of_ble_eq_true rfl), (Nat.le_of_ble_eq_true rfl)⟩) hCP (CP_rc hCP) rfl rfl hl.1 (Nat.le_of_ble_eq_true rfl) dL_putBehind_4 ⟨(Nat.le_of_ble_eq_true rfl), (Nat.le_of_ble_eq_true rfl)⟩ (fun H1 ce q9 h1 h2 h3 h4 h5 => ?_)
  obtain ⟨hK, hZL, hst9, hTW⟩ := id hCP.1
  obtain ⟨tw0, tw1, tw2, tw3, tw4, tw5, kw0, kw1, kw2, kd0, kd1, kd2, hU9, hN9⟩ := hTW
  refine vx_catch (own := RL) (name := "java/lang/IndexOutOfBoundsException") hown [] ⟨0, 9, 12, 19⟩ [⟨0, 9, 15, 13⟩] (hTab.trans rfl) (fun z hz => by cases hz) rfl (by decide) (hts (.classLink RL 19 "java/lang/IndexOutOfBoundsException") (by decide +kernel)) (va_Nw.use rfl kw0) h3 h4 h5 ?_
  show W p l e _ s m _ below meth c H1 [] (0 + 1) (0 + 6) _ (F0 m 12 ls [.ref q9])
  refine lv_astore_n (lv' := [(3, .ref q9), (0, .ref x0), (1, .int (iI (x))), (2, .ref o)]) hx hb dL_putBehind_12 rfl hl (by decide) rfl (fun ls hl => ?_)
  refine pv_iconst hx hb dL_putBehind_13 ?_
  have hk : ∀ q : Nat, q < s.heap.size → ¬ (fun _ => False) q → H1[q]? = s.heap[q]? := fun q a _ => h2 q a
  exact wr_iret hx hb hr hlocks ⟨h1, fun q a _ => h2 q a, fun _ h => by cases h⟩ dL_putBehind_14 rfl ⟨CW_fr hCP.2 hk (fun _ _ h => h), lf, OC_fr hPo hk (fun h => h)⟩
set_option maxHeartbeats 4000000 in
set_option maxRecDepth 100000 in
theorem v_putBehind2 (l : Launch) (D : va_G) (cI cZ cJ : ClassId) (base st : Nat) (Z : Nat → Nat) (x0 x1 x2 x5 x6 x7 o : Nat) {n came MV : Int} {F G SP RF RC : Int → Int} (hfl : l.stackTraces = false) (hn : 0 ≤ n ∧ n ≤ 60) (hF : ∀ k : Int, 0 ≤ k → k < n → 0 ≤ F k ∧ F k < 200) (hcm : 0 ≤ came ∧ came ≤ 200) (x : Int) (hxr : (-2147483648 ≤ x ∧ x ≤ 2147483647)) (rp : Int) (hrp : PL F n x rp) (h0 : 0 ≤ rp) (hfr : ¬ (came < 200 ∧ n < 60)) : wr_M l yL_putBehind wsL_putBehind ({ frames := 8, cells := 1, slots := 6, locals := 135 } : Room) [.ref x0, .int (iI (x)), .ref o] (WP D cI cZ cJ base st Z x0 x1 x2 x5 x6 x7 o n came MV F G SP RF RC) 2 (fun H => CW D cI base x0 x1 x2 x5 x6 x7 n came MV F G SP RF RC H ∧ ∃ lf, OC D cJ o lf H) (mO x0 x1 x2 x5 x6 x7 o) 1 6 := by
  refine wr_of (cc := cL_putBehind) (maxL := 4) (ret := (some .int)) (own := RL) (hh := [(0, 9, 12, 19), (0, 9, 15, 13)]) (by decide) rfl rfl (Nat.le_of_ble_eq_true rfl) ?_
  intro p e s m below meth c ls B hTab hWP hl hS
  obtain ⟨hx, hb, hml, hr, hts, hown, hlocks⟩ := B
  obtain ⟨hCP, hKJ, ⟨lf, hPo⟩, hoC, hnc1, hnc2⟩ := hWP
  have hl : lv_has ls 4 [(0, .ref x0), (1, .int (iI (x))), (2, .ref o)] := hl
  refine lv_aload_n hx hb dL_putBehind_0 rfl (lv_at hl 2 rfl) ?_
  refine pv_iconst hx hb dL_putBehind_1 ?_
  refine lv_aload_n hx hb dL_putBehind_2 rfl (lv_at hl 0 rfl) ?_
  refine lv_iload_n hx hb dL_putBehind_3 rfl (lv_at hl 1 rfl) ?_
  refine th_callV (As := [.int (iI (x))]) (rest := [.int (iI 0), .ref o]) CP_mv ⟨hx, hb, hml, hown, hts⟩ (t_putBehind2 l D cI cZ base st Z x0 x1 x2 x5 x6 x7 hfl hn hF hcm x hxr rp hrp h0 hfr) (cwV 1 hts gL_putBehind_X0_putBehind rfl rfl rfl (by decide +kernel) ⟨(Nat.le_of_ble_eq_true rfl), (Nat.le_of_ble_eq_true rfl)⟩) hCP (CP_rc hCP) rfl rfl hl.1 (Nat.le_of_ble_eq_true rfl) dL_putBehind_4 ⟨(Nat.le_of_ble_eq_true rfl), (Nat.le_of_ble_eq_true rfl)⟩ (fun H1 ce q9 h1 h2 h3 h4 h5 => ?_)
  obtain ⟨hK, hZL, hst9, hTW⟩ := id hCP.1
  obtain ⟨tw0, tw1, tw2, tw3, tw4, tw5, kw0, kw1, kw2, kd0, kd1, kd2, hU9, hN9⟩ := hTW
  refine vx_catch (own := RL) (name := "java/lang/IllegalStateException") hown [⟨0, 9, 12, 19⟩] ⟨0, 9, 15, 13⟩ [] (hTab.trans rfl) (fun z hz => by rw [List.mem_singleton.mp hz]; exact Or.inr ⟨by decide, "java/lang/IndexOutOfBoundsException", hts (.classLink RL 19 "java/lang/IndexOutOfBoundsException") (by decide +kernel), hnc1⟩) rfl (by decide) (hts (.classLink RL 13 "java/lang/IllegalStateException") (by decide +kernel)) (va_Nw.use rfl kw1) h3 h4 h5 ?_
  show W p l e _ s m _ below meth c H1 [] (0 + 1) (0 + 6) _ (F0 m 15 ls [.ref q9])
  refine lv_astore_n (lv' := [(3, .ref q9), (0, .ref x0), (1, .int (iI (x))), (2, .ref o)]) hx hb dL_putBehind_15 rfl hl (by decide) rfl (fun ls hl => ?_)
  refine pv_iconst hx hb dL_putBehind_16 ?_
  have hk : ∀ q : Nat, q < s.heap.size → ¬ (fun _ => False) q → H1[q]? = s.heap[q]? := fun q a _ => h2 q a
  exact wr_iret hx hb hr hlocks ⟨h1, fun q a _ => h2 q a, fun _ h => by cases h⟩ dL_putBehind_17 rfl ⟨CW_fr hCP.2 hk (fun _ _ h => h), lf, OC_fr hPo hk (fun h => h)⟩
set_option maxHeartbeats 4000000 in
set_option maxRecDepth 100000 in
theorem w_takeOut (l : Launch) (D : va_G) (cI cZ cJ : ClassId) (base st : Nat) (Z : Nat → Nat) (x0 x1 x2 x5 x6 x7 o : Nat) {n came MV : Int} {F G SP RF RC : Int → Int} (hn : 0 ≤ n ∧ n ≤ 60) (hF : ∀ k : Int, 0 ≤ k → k < n → 0 ≤ F k ∧ F k < 200) (hRF : ∀ k : Int, 0 ≤ k → k < 4 → -1 ≤ RF k ∧ RF k < 200) (x : Int) (hxr : (-2147483648 ≤ x ∧ x ≤ 2147483647)) (rp : Int) (hrp : PL F n x rp) (h0 : 0 ≤ rp) : wr_M l yL_takeOut wsL_takeOut ({ frames := 4, cells := 0, slots := 0, locals := 88 } : Room) [.ref x0, .int (iI (x)), .ref o] (WP D cI cZ cJ base st Z x0 x1 x2 x5 x6 x7 o n came MV F G SP RF RC) 0 (fun H => (fun H => CW D cI base x0 x1 x2 x5 x6 x7 (n - 1) (came) (MV) (remF F rp) (remF G rp) (SP) (sendF RF x (fa F n (rp + 1))) (RC) H) H ∧ ∃ lf, lf 0 = (iI (n - 1)).toInt64 ∧ OC D cJ o lf H) (mO x0 x1 x2 x5 x6 x7 o) 0 0 := by
  refine wr_of (cc := cL_takeOut) (maxL := 4) (ret := (some .int)) (own := RL) (hh := [(0, 9, 12, 19)]) (by decide) rfl rfl (Nat.le_of_ble_eq_true rfl) ?_
  intro p e s m below meth c ls B hTab hWP hl hS
  obtain ⟨hx, hb, hml, hr, hts, hown, hlocks⟩ := B
  obtain ⟨hCP, hKJ, ⟨lf, hPo⟩, hoC, hnc1, hnc2⟩ := hWP
  have hl : lv_has ls 4 [(0, .ref x0), (1, .int (iI (x))), (2, .ref o)] := hl
  refine lv_aload_n hx hb dL_takeOut_0 rfl (lv_at hl 2 rfl) ?_
  refine pv_iconst hx hb dL_takeOut_1 ?_
  refine lv_aload_n hx hb dL_takeOut_2 rfl (lv_at hl 0 rfl) ?_
  refine lv_iload_n hx hb dL_takeOut_3 rfl (lv_at hl 1 rfl) ?_
  refine mu_callV (As := [.int (iI (x))]) (rest := [.int (iI 0), .ref o]) CP_mv ⟨hx, hb, hml, hown, hts⟩ (c_takeOut l D cI cZ base st Z x0 x1 x2 x5 x6 x7 hn hF hRF x hxr rp hrp h0) (cwV 1 hts gL_takeOut_X0_takeOut rfl rfl rfl (by decide +kernel) ⟨(Nat.le_of_ble_eq_true rfl), (Nat.le_of_ble_eq_true rfl)⟩) hCP (CP_rc hCP) rfl rfl hl.1 (Nat.le_of_ble_eq_true rfl) dL_takeOut_4 ⟨Nat.zero_le _, Nat.zero_le _⟩ hS (fun q h => Or.inl h) (fun H locs hC9 hz9 hk9 hS => ?_)
  have hPo := OC_fr hPo hk9 hoC
  refine lv_i2l (v := (iI (n - 1)).toInt64) hx hb dL_takeOut_7 rfl ?_
  refine pv_last (v := (iI (n - 1)).toInt64) hx hb hKJ hPo hS (Or.inr rfl) dL_takeOut_8 (fun H1 locs1 lf2 hv2 hPo2 hz2 hk2 hS => ?_)
  refine lv_goto (tgt := 15) hx hb dL_takeOut_9 (by decide) ?_
  refine pv_iconst hx hb dL_takeOut_15 ?_
  exact wr_iret hx hb hr hlocks hS dL_takeOut_16 rfl ⟨CW_fr (A := fun q => q = o) hC9 (fun q _ h => hk2 q h) (fun q h z => hoC (by rw [← z]; exact h)), lf2, hv2, hPo2⟩
set_option maxHeartbeats 4000000 in
set_option maxRecDepth 100000 in
theorem v_takeOut (l : Launch) (D : va_G) (cI cZ cJ : ClassId) (base st : Nat) (Z : Nat → Nat) (x0 x1 x2 x5 x6 x7 o : Nat) {n came MV : Int} {F G SP RF RC : Int → Int} (hfl : l.stackTraces = false) (hn : 0 ≤ n ∧ n ≤ 60) (hF : ∀ k : Int, 0 ≤ k → k < n → 0 ≤ F k ∧ F k < 200) (x : Int) (hxr : (-2147483648 ≤ x ∧ x ≤ 2147483647)) (hrp : PL F n x (-1)) : wr_M l yL_takeOut wsL_takeOut ({ frames := 8, cells := 1, slots := 6, locals := 136 } : Room) [.ref x0, .int (iI (x)), .ref o] (WP D cI cZ cJ base st Z x0 x1 x2 x5 x6 x7 o n came MV F G SP RF RC) 1 (fun H => CW D cI base x0 x1 x2 x5 x6 x7 n came MV F G SP RF RC H ∧ ∃ lf, OC D cJ o lf H) (mO x0 x1 x2 x5 x6 x7 o) 1 6 := by
  refine wr_of (cc := cL_takeOut) (maxL := 4) (ret := (some .int)) (own := RL) (hh := [(0, 9, 12, 19)]) (by decide) rfl rfl (Nat.le_of_ble_eq_true rfl) ?_
  intro p e s m below meth c ls B hTab hWP hl hS
  obtain ⟨hx, hb, hml, hr, hts, hown, hlocks⟩ := B
  obtain ⟨hCP, hKJ, ⟨lf, hPo⟩, hoC, hnc1, hnc2⟩ := hWP
  have hl : lv_has ls 4 [(0, .ref x0), (1, .int (iI (x))), (2, .ref o)] := hl
  refine lv_aload_n hx hb dL_takeOut_0 rfl (lv_at hl 2 rfl) ?_
  refine pv_iconst hx hb dL_takeOut_1 ?_
  refine lv_aload_n hx hb dL_takeOut_2 rfl (lv_at hl 0 rfl) ?_
  refine lv_iload_n hx hb dL_takeOut_3 rfl (lv_at hl 1 rfl) ?_
  refine th_callV (As := [.int (iI (x))]) (rest := [.int (iI 0), .ref o]) CP_mv ⟨hx, hb, hml, hown, hts⟩ (t_takeOut l D cI cZ base st Z x0 x1 x2 x5 x6 x7 hfl hn hF x hxr hrp) (cwV 1 hts gL_takeOut_X0_takeOut rfl rfl rfl (by decide +kernel) ⟨(Nat.le_of_ble_eq_true rfl), (Nat.le_of_ble_eq_true rfl)⟩) hCP (CP_rc hCP) rfl rfl hl.1 (Nat.le_of_ble_eq_true rfl) dL_takeOut_4 ⟨(Nat.le_of_ble_eq_true rfl), (Nat.le_of_ble_eq_true rfl)⟩ (fun H1 ce q9 h1 h2 h3 h4 h5 => ?_)
  obtain ⟨hK, hZL, hst9, hTW⟩ := id hCP.1
  obtain ⟨tw0, tw1, tw2, tw3, tw4, tw5, kw0, kw1, kw2, kd0, kd1, kd2, hU9, hN9⟩ := hTW
  refine vx_catch (own := RL) (name := "java/lang/IndexOutOfBoundsException") hown [] ⟨0, 9, 12, 19⟩ [] (hTab.trans rfl) (fun z hz => by cases hz) rfl (by decide) (hts (.classLink RL 19 "java/lang/IndexOutOfBoundsException") (by decide +kernel)) (va_Nw.use rfl kw0) h3 h4 h5 ?_
  show W p l e _ s m _ below meth c H1 [] (0 + 1) (0 + 6) _ (F0 m 12 ls [.ref q9])
  refine lv_astore_n (lv' := [(3, .ref q9), (0, .ref x0), (1, .int (iI (x))), (2, .ref o)]) hx hb dL_takeOut_12 rfl hl (by decide) rfl (fun ls hl => ?_)
  refine pv_iconst hx hb dL_takeOut_13 ?_
  have hk : ∀ q : Nat, q < s.heap.size → ¬ (fun _ => False) q → H1[q]? = s.heap[q]? := fun q a _ => h2 q a
  exact wr_iret hx hb hr hlocks ⟨h1, fun q a _ => h2 q a, fun _ h => by cases h⟩ dL_takeOut_14 rfl ⟨CW_fr hCP.2 hk (fun _ _ h => h), lf, OC_fr hPo hk (fun h => h)⟩
set_option maxHeartbeats 4000000 in
set_option maxRecDepth 100000 in
theorem w_carry (l : Launch) (D : va_G) (cI cZ cJ : ClassId) (base st : Nat) (Z : Nat → Nat) (x0 x1 x2 x5 x6 x7 o : Nat) {n came MV : Int} {F G SP RF RC : Int → Int} (hn : 0 ≤ n ∧ n ≤ 60) (hF : ∀ k : Int, 0 ≤ k → k < n → 0 ≤ F k ∧ F k < 200) (hG : ∀ k : Int, 0 ≤ k → k < n → 0 ≤ G k ∧ G k ≤ 255) (hs : SD G n) (x : Int) (hxr : (-2147483648 ≤ x ∧ x ≤ 2147483647)) (rp : Int) (hrp : PL F n x rp) (h0 : 0 ≤ rp) (y : Int) (hyr : (-2147483648 ≤ y ∧ y ≤ 2147483647)) (ro : Int) (hro : PL F n y ro) (h1 : 0 ≤ ro) (hne : x ≠ y) (rq : Int) (hrq : PL (remF F rp) (n - 1) y rq) (h2 : 0 ≤ rq) (hG1 : ∀ k : Int, 0 ≤ k → k < n - 1 → 0 ≤ remF G rp k ∧ remF G rp k ≤ 255) (hs1 : SD (remF G rp) (n - 1)) (hF1 : ∀ k : Int, 0 ≤ k → k < n - 1 → 0 ≤ remF F rp k ∧ remF F rp k < 200) (G2 : Int → Int) (dm : Int) (SP2 : Int → Int) (hPT : PT (remF G rp) (n - 1) (rq + 1) SP G2 dm SP2) (hF2 : ∀ k : Int, 0 ≤ k → k < n → 0 ≤ insF (remF F rp) (rq + 1) x k ∧ insF (remF F rp) (rq + 1) x k < 200) (hrz : PL (insF (remF F rp) (rq + 1) x) n x (rq + 1)) : wr_M l yL_carry wsL_carry ({ frames := 7, cells := 0, slots := 0, locals := 162 } : Room) [.ref x0, .int (iI (x)), .int (iI (y)), .ref o] (WP D cI cZ cJ base st Z x0 x1 x2 x5 x6 x7 o n came MV F G SP RF RC) 0 (fun H => (fun H => CW D cI base x0 x1 x2 x5 x6 x7 (n - 1 + 1) (came) (MV + dm) (insF (remF F rp) (rq + 1) x) (G2) (SP2) (RF) (RC) H) H ∧ ∃ lf, lf 0 = (iI (G2 (rq + 1))).toInt64 ∧ OC D cJ o lf H) (mO x0 x1 x2 x5 x6 x7 o) 0 0 := by
  refine wr_of (cc := cL_carry) (maxL := 5) (ret := (some .int)) (own := RL) (hh := [(0, 10, 13, 19), (0, 10, 17, 28)]) (by decide) rfl rfl (Nat.le_of_ble_eq_true rfl) ?_
  intro p e s m below meth c ls B hTab hWP hl hS
  obtain ⟨hx, hb, hml, hr, hts, hown, hlocks⟩ := B
  obtain ⟨hCP, hKJ, ⟨lf, hPo⟩, hoC, hnc1, hnc2⟩ := hWP
  have hl : lv_has ls 5 [(0, .ref x0), (1, .int (iI (x))), (2, .int (iI (y))), (3, .ref o)] := hl
  refine lv_aload_n hx hb dL_carry_0 rfl (lv_at hl 3 rfl) ?_
  refine pv_iconst hx hb dL_carry_1 ?_
  refine lv_aload_n hx hb dL_carry_2 rfl (lv_at hl 0 rfl) ?_
  refine lv_iload_n hx hb dL_carry_3 rfl (lv_at hl 1 rfl) ?_
  refine lv_iload_n hx hb dL_carry_4 rfl (lv_at hl 2 rfl) ?_
  refine mu_callV (As := [.int (iI (x)), .int (iI (y))]) (rest := [.int (iI 0), .ref o]) CP_mv ⟨hx, hb, hml, hown, hts⟩ (c_carry l D cI cZ base st Z x0 x1 x2 x5 x6 x7 hn hF hG hs x hxr rp hrp h0 y hyr ro hro h1 hne rq hrq h2 hG1 hs1 hF1 G2 dm SP2 hPT hF2 hrz) (cwV 2 hts gL_carry_X0_carry rfl rfl rfl (by decide +kernel) ⟨(Nat.le_of_ble_eq_true rfl), (Nat.le_of_ble_eq_true rfl)⟩) hCP (CP_rc hCP) rfl rfl hl.1 (Nat.le_of_ble_eq_true rfl) dL_carry_5 ⟨Nat.zero_le _, Nat.zero_le _⟩ hS (fun q h => Or.inl h) (fun H locs hC9 hz9 hk9 hS => ?_)
  have hPo := OC_fr hPo hk9 hoC
  refine lv_i2l (v := (iI (G2 (rq + 1))).toInt64) hx hb dL_carry_8 rfl ?_
  refine pv_last (v := (iI (G2 (rq + 1))).toInt64) hx hb hKJ hPo hS (Or.inr rfl) dL_carry_9 (fun H1 locs1 lf2 hv2 hPo2 hz2 hk2 hS => ?_)
  refine lv_goto (tgt := 21) hx hb dL_carry_10 (by decide) ?_
  refine pv_iconst hx hb dL_carry_21 ?_
  exact wr_iret hx hb hr hlocks hS dL_carry_22 rfl ⟨CW_fr (A := fun q => q = o) hC9 (fun q _ h => hk2 q h) (fun q h z => hoC (by rw [← z]; exact h)), lf2, hv2, hPo2⟩
set_option maxHeartbeats 4000000 in
set_option maxRecDepth 100000 in
theorem v_carry (l : Launch) (D : va_G) (cI cZ cJ : ClassId) (base st : Nat) (Z : Nat → Nat) (x0 x1 x2 x5 x6 x7 o : Nat) {n came MV : Int} {F G SP RF RC : Int → Int} (hfl : l.stackTraces = false) (hn : 0 ≤ n ∧ n ≤ 60) (hF : ∀ k : Int, 0 ≤ k → k < n → 0 ≤ F k ∧ F k < 200) (x : Int) (hxr : (-2147483648 ≤ x ∧ x ≤ 2147483647)) (hrp : PL F n x (-1)) (y : Int) : wr_M l yL_carry wsL_carry ({ frames := 8, cells := 1, slots := 6, locals := 137 } : Room) [.ref x0, .int (iI (x)), .int (iI (y)), .ref o] (WP D cI cZ cJ base st Z x0 x1 x2 x5 x6 x7 o n came MV F G SP RF RC) 1 (fun H => CW D cI base x0 x1 x2 x5 x6 x7 n came MV F G SP RF RC H ∧ ∃ lf, OC D cJ o lf H) (mO x0 x1 x2 x5 x6 x7 o) 1 6 := by
  refine wr_of (cc := cL_carry) (maxL := 5) (ret := (some .int)) (own := RL) (hh := [(0, 10, 13, 19), (0, 10, 17, 28)]) (by decide) rfl rfl (Nat.le_of_ble_eq_true rfl) ?_
  intro p e s m below meth c ls B hTab hWP hl hS
  obtain ⟨hx, hb, hml, hr, hts, hown, hlocks⟩ := B
  obtain ⟨hCP, hKJ, ⟨lf, hPo⟩, hoC, hnc1, hnc2⟩ := hWP
  have hl : lv_has ls 5 [(0, .ref x0), (1, .int (iI (x))), (2, .int (iI (y))), (3, .ref o)] := hl
  refine lv_aload_n hx hb dL_carry_0 rfl (lv_at hl 3 rfl) ?_
  refine pv_iconst hx hb dL_carry_1 ?_
  refine lv_aload_n hx hb dL_carry_2 rfl (lv_at hl 0 rfl) ?_
  refine lv_iload_n hx hb dL_carry_3 rfl (lv_at hl 1 rfl) ?_
  refine lv_iload_n hx hb dL_carry_4 rfl (lv_at hl 2 rfl) ?_
  refine th_callV (As := [.int (iI (x)), .int (iI (y))]) (rest := [.int (iI 0), .ref o]) CP_mv ⟨hx, hb, hml, hown, hts⟩ (t_carry l D cI cZ base st Z x0 x1 x2 x5 x6 x7 hfl hn hF x hxr hrp y) (cwV 2 hts gL_carry_X0_carry rfl rfl rfl (by decide +kernel) ⟨(Nat.le_of_ble_eq_true rfl), (Nat.le_of_ble_eq_true rfl)⟩) hCP (CP_rc hCP) rfl rfl hl.1 (Nat.le_of_ble_eq_true rfl) dL_carry_5 ⟨(Nat.le_of_ble_eq_true rfl), (Nat.le_of_ble_eq_true rfl)⟩ (fun H1 ce q9 h1 h2 h3 h4 h5 => ?_)
  obtain ⟨hK, hZL, hst9, hTW⟩ := id hCP.1
  obtain ⟨tw0, tw1, tw2, tw3, tw4, tw5, kw0, kw1, kw2, kd0, kd1, kd2, hU9, hN9⟩ := hTW
  refine vx_catch (own := RL) (name := "java/lang/IndexOutOfBoundsException") hown [] ⟨0, 10, 13, 19⟩ [⟨0, 10, 17, 28⟩] (hTab.trans rfl) (fun z hz => by cases hz) rfl (by decide) (hts (.classLink RL 19 "java/lang/IndexOutOfBoundsException") (by decide +kernel)) (va_Nw.use rfl kw0) h3 h4 h5 ?_
  show W p l e _ s m _ below meth c H1 [] (0 + 1) (0 + 6) _ (F0 m 13 ls [.ref q9])
  refine lv_astore (lv' := [(4, .ref q9), (0, .ref x0), (1, .int (iI (x))), (2, .int (iI (y))), (3, .ref o)]) hx hb dL_carry_13 hl (by decide) rfl (fun ls hl => ?_)
  refine pv_iconst hx hb dL_carry_15 ?_
  have hk : ∀ q : Nat, q < s.heap.size → ¬ (fun _ => False) q → H1[q]? = s.heap[q]? := fun q a _ => h2 q a
  exact wr_iret hx hb hr hlocks ⟨h1, fun q a _ => h2 q a, fun _ h => by cases h⟩ dL_carry_16 rfl ⟨CW_fr hCP.2 hk (fun _ _ h => h), lf, OC_fr hPo hk (fun h => h)⟩
set_option maxHeartbeats 4000000 in
set_option maxRecDepth 100000 in
theorem v_carry2 (l : Launch) (D : va_G) (cI cZ cJ : ClassId) (base st : Nat) (Z : Nat → Nat) (x0 x1 x2 x5 x6 x7 o : Nat) {n came MV : Int} {F G SP RF RC : Int → Int} (hfl : l.stackTraces = false) (hn : 0 ≤ n ∧ n ≤ 60) (hF : ∀ k : Int, 0 ≤ k → k < n → 0 ≤ F k ∧ F k < 200) (x : Int) (hxr : (-2147483648 ≤ x ∧ x ≤ 2147483647)) (rp : Int) (hrp : PL F n x rp) (h0 : 0 ≤ rp) (y : Int) (hyr : (-2147483648 ≤ y ∧ y ≤ 2147483647)) (hro : PL F n y (-1)) : wr_M l yL_carry wsL_carry ({ frames := 8, cells := 1, slots := 6, locals := 137 } : Room) [.ref x0, .int (iI (x)), .int (iI (y)), .ref o] (WP D cI cZ cJ base st Z x0 x1 x2 x5 x6 x7 o n came MV F G SP RF RC) 1 (fun H => CW D cI base x0 x1 x2 x5 x6 x7 n came MV F G SP RF RC H ∧ ∃ lf, OC D cJ o lf H) (mO x0 x1 x2 x5 x6 x7 o) 1 6 := by
  refine wr_of (cc := cL_carry) (maxL := 5) (ret := (some .int)) (own := RL) (hh := [(0, 10, 13, 19), (0, 10, 17, 28)]) (by decide) rfl rfl (Nat.le_of_ble_eq_true rfl) ?_
  intro p e s m below meth c ls B hTab hWP hl hS
  obtain ⟨hx, hb, hml, hr, hts, hown, hlocks⟩ := B
  obtain ⟨hCP, hKJ, ⟨lf, hPo⟩, hoC, hnc1, hnc2⟩ := hWP
  have hl : lv_has ls 5 [(0, .ref x0), (1, .int (iI (x))), (2, .int (iI (y))), (3, .ref o)] := hl
  refine lv_aload_n hx hb dL_carry_0 rfl (lv_at hl 3 rfl) ?_
  refine pv_iconst hx hb dL_carry_1 ?_
  refine lv_aload_n hx hb dL_carry_2 rfl (lv_at hl 0 rfl) ?_
  refine lv_iload_n hx hb dL_carry_3 rfl (lv_at hl 1 rfl) ?_
  refine lv_iload_n hx hb dL_carry_4 rfl (lv_at hl 2 rfl) ?_
  refine th_callV (As := [.int (iI (x)), .int (iI (y))]) (rest := [.int (iI 0), .ref o]) CP_mv ⟨hx, hb, hml, hown, hts⟩ (t_carry2 l D cI cZ base st Z x0 x1 x2 x5 x6 x7 hfl hn hF x hxr rp hrp h0 y hyr hro) (cwV 2 hts gL_carry_X0_carry rfl rfl rfl (by decide +kernel) ⟨(Nat.le_of_ble_eq_true rfl), (Nat.le_of_ble_eq_true rfl)⟩) hCP (CP_rc hCP) rfl rfl hl.1 (Nat.le_of_ble_eq_true rfl) dL_carry_5 ⟨(Nat.le_of_ble_eq_true rfl), (Nat.le_of_ble_eq_true rfl)⟩ (fun H1 ce q9 h1 h2 h3 h4 h5 => ?_)
  obtain ⟨hK, hZL, hst9, hTW⟩ := id hCP.1
  obtain ⟨tw0, tw1, tw2, tw3, tw4, tw5, kw0, kw1, kw2, kd0, kd1, kd2, hU9, hN9⟩ := hTW
  refine vx_catch (own := RL) (name := "java/lang/IndexOutOfBoundsException") hown [] ⟨0, 10, 13, 19⟩ [⟨0, 10, 17, 28⟩] (hTab.trans rfl) (fun z hz => by cases hz) rfl (by decide) (hts (.classLink RL 19 "java/lang/IndexOutOfBoundsException") (by decide +kernel)) (va_Nw.use rfl kw0) h3 h4 h5 ?_
  show W p l e _ s m _ below meth c H1 [] (0 + 1) (0 + 6) _ (F0 m 13 ls [.ref q9])
  refine lv_astore (lv' := [(4, .ref q9), (0, .ref x0), (1, .int (iI (x))), (2, .int (iI (y))), (3, .ref o)]) hx hb dL_carry_13 hl (by decide) rfl (fun ls hl => ?_)
  refine pv_iconst hx hb dL_carry_15 ?_
  have hk : ∀ q : Nat, q < s.heap.size → ¬ (fun _ => False) q → H1[q]? = s.heap[q]? := fun q a _ => h2 q a
  exact wr_iret hx hb hr hlocks ⟨h1, fun q a _ => h2 q a, fun _ h => by cases h⟩ dL_carry_16 rfl ⟨CW_fr hCP.2 hk (fun _ _ h => h), lf, OC_fr hPo hk (fun h => h)⟩
set_option maxHeartbeats 4000000 in
set_option maxRecDepth 100000 in
theorem v_carry3 (l : Launch) (D : va_G) (cI cZ cJ : ClassId) (base st : Nat) (Z : Nat → Nat) (x0 x1 x2 x5 x6 x7 o : Nat) {n came MV : Int} {F G SP RF RC : Int → Int} (hfl : l.stackTraces = false) (hn : 0 ≤ n ∧ n ≤ 60) (hF : ∀ k : Int, 0 ≤ k → k < n → 0 ≤ F k ∧ F k < 200) (x : Int) (hxr : (-2147483648 ≤ x ∧ x ≤ 2147483647)) (rp : Int) (hrp : PL F n x rp) (h0 : 0 ≤ rp) : wr_M l yL_carry wsL_carry ({ frames := 7, cells := 1, slots := 6, locals := 115 } : Room) [.ref x0, .int (iI (x)), .int (iI (x)), .ref o] (WP D cI cZ cJ base st Z x0 x1 x2 x5 x6 x7 o n came MV F G SP RF RC) 2 (fun H => CW D cI base x0 x1 x2 x5 x6 x7 n came MV F G SP RF RC H ∧ ∃ lf, OC D cJ o lf H) (mO x0 x1 x2 x5 x6 x7 o) 1 6 := by
  refine wr_of (cc := cL_carry) (maxL := 5) (ret := (some .int)) (own := RL) (hh := [(0, 10, 13, 19), (0, 10, 17, 28)]) (by decide) rfl rfl (Nat.le_of_ble_eq_true rfl) ?_
  intro p e s m below meth c ls B hTab hWP hl hS
  obtain ⟨hx, hb, hml, hr, hts, hown, hlocks⟩ := B
  obtain ⟨hCP, hKJ, ⟨lf, hPo⟩, hoC, hnc1, hnc2⟩ := hWP
  have hl : lv_has ls 5 [(0, .ref x0), (1, .int (iI (x))), (2, .int (iI (x))), (3, .ref o)] := hl
  refine lv_aload_n hx hb dL_carry_0 rfl (lv_at hl 3 rfl) ?_
  refine pv_iconst hx hb dL_carry_1 ?_
  refine lv_aload_n hx hb dL_carry_2 rfl (lv_at hl 0 rfl) ?_
  refine lv_iload_n hx hb dL_carry_3 rfl (lv_at hl 1 rfl) ?_
  refine lv_iload_n hx hb dL_carry_4 rfl (lv_at hl 2 rfl) ?_
  refine th_callV (As := [.int (iI (x)), .int (iI (x))]) (rest := [.int (iI 0), .ref o]) CP_mv ⟨hx, hb, hml, hown, hts⟩ (t_carry3 l D cI cZ base st Z x0 x1 x2 x5 x6 x7 hfl hn hF x hxr rp hrp h0) (cwV 2 hts gL_carry_X0_carry rfl rfl rfl (by decide +kernel) ⟨(Nat.le_of_ble_eq_true rfl), (Nat.le_of_ble_eq_true rfl)⟩) hCP (CP_rc hCP) rfl rfl hl.1 (Nat.le_of_ble_eq_true rfl) dL_carry_5 ⟨(Nat.le_of_ble_eq_true rfl), (Nat.le_of_ble_eq_true rfl)⟩ (fun H1 ce q9 h1 h2 h3 h4 h5 => ?_)
  obtain ⟨hK, hZL, hst9, hTW⟩ := id hCP.1
  obtain ⟨tw0, tw1, tw2, tw3, tw4, tw5, kw0, kw1, kw2, kd0, kd1, kd2, hU9, hN9⟩ := hTW
  refine vx_catch (own := RL) (name := "java/lang/IllegalArgumentException") hown [⟨0, 10, 13, 19⟩] ⟨0, 10, 17, 28⟩ [] (hTab.trans rfl) (fun z hz => by rw [List.mem_singleton.mp hz]; exact Or.inr ⟨by decide, "java/lang/IndexOutOfBoundsException", hts (.classLink RL 19 "java/lang/IndexOutOfBoundsException") (by decide +kernel), hnc2⟩) rfl (by decide) (hts (.classLink RL 28 "java/lang/IllegalArgumentException") (by decide +kernel)) (va_Nw.use rfl kw2) h3 h4 h5 ?_
  show W p l e _ s m _ below meth c H1 [] (0 + 1) (0 + 6) _ (F0 m 17 ls [.ref q9])
  refine lv_astore (lv' := [(4, .ref q9), (0, .ref x0), (1, .int (iI (x))), (2, .int (iI (x))), (3, .ref o)]) hx hb dL_carry_17 hl (by decide) rfl (fun ls hl => ?_)
  refine pv_iconst hx hb dL_carry_19 ?_
  have hk : ∀ q : Nat, q < s.heap.size → ¬ (fun _ => False) q → H1[q]? = s.heap[q]? := fun q a _ => h2 q a
  exact wr_iret hx hb hr hlocks ⟨h1, fun q a _ => h2 q a, fun _ h => by cases h⟩ dL_carry_20 rfl ⟨CW_fr hCP.2 hk (fun _ _ h => h), lf, OC_fr hPo hk (fun h => h)⟩
set_option maxHeartbeats 4000000 in
set_option maxRecDepth 100000 in
theorem w_next (l : Launch) (D : va_G) (cI cZ cJ : ClassId) (base st : Nat) (Z : Nat → Nat) (x0 x1 x2 x5 x6 x7 o : Nat) {n came MV : Int} {F G SP RF RC : Int → Int} (hn : 0 ≤ n ∧ n ≤ 60) (hF : ∀ k : Int, 0 ≤ k → k < n → 0 ≤ F k ∧ F k < 200) (x : Int) (hxr : (-2147483648 ≤ x ∧ x ≤ 2147483647)) (rp : Int) (hrp : PL F n x rp) (h0 : 0 ≤ rp) (r : Int) (hr9 : r = fa F n (rp + 1)) : wr_M l yL_next wsL_next ({ frames := 3, cells := 0, slots := 0, locals := 65 } : Room) [.ref x0, .int (iI (x)), .ref o] (WP D cI cZ cJ base st Z x0 x1 x2 x5 x6 x7 o n came MV F G SP RF RC) 0 (fun H => CW D cI base x0 x1 x2 x5 x6 x7 n came MV F G SP RF RC H ∧ ∃ lf, lf 0 = (iI (r)).toInt64 ∧ OC D cJ o lf H) (mO x0 x1 x2 x5 x6 x7 o) 0 0 := by
  refine wr_of (cc := cL_next) (maxL := 4) (ret := (some .int)) (own := RL) (hh := [(0, 9, 12, 19)]) (by decide) rfl rfl (Nat.le_of_ble_eq_true rfl) ?_
  intro p e s m below meth c ls B hTab hWP hl hS
  obtain ⟨hx, hb, hml, hr, hts, hown, hlocks⟩ := B
  obtain ⟨hCP, hKJ, ⟨lf, hPo⟩, hoC, hnc1, hnc2⟩ := hWP
  have hl : lv_has ls 4 [(0, .ref x0), (1, .int (iI (x))), (2, .ref o)] := hl
  refine lv_aload_n hx hb dL_next_0 rfl (lv_at hl 2 rfl) ?_
  refine pv_iconst hx hb dL_next_1 ?_
  refine lv_aload_n hx hb dL_next_2 rfl (lv_at hl 0 rfl) ?_
  refine lv_iload_n hx hb dL_next_3 rfl (lv_at hl 1 rfl) ?_
  refine pu_callV (v := r) (As := [.int (iI (x))]) (rest := [.int (iI 0), .ref o]) CP_mv ⟨hx, hb, hml, hown, hts⟩ (c_next l D cI cZ base st Z x0 x1 x2 x5 x6 x7 hn hF x hxr rp hrp h0 r hr9) (cwV 1 hts gL_next_X0_next rfl rfl rfl (by decide +kernel) ⟨(Nat.le_of_ble_eq_true rfl), (Nat.le_of_ble_eq_true rfl)⟩) hCP (CP_rc hCP) rfl rfl hl.1 (Nat.le_of_ble_eq_true rfl) dL_next_4 ⟨Nat.zero_le _, Nat.zero_le _⟩ ?_
  refine lv_i2l (v := (iI (r)).toInt64) hx hb dL_next_7 rfl ?_
  refine pv_last (v := (iI (r)).toInt64) hx hb hKJ hPo hS (Or.inr rfl) dL_next_8 (fun H1 locs1 lf2 hv2 hPo2 hz2 hk2 hS => ?_)
  refine lv_goto (tgt := 15) hx hb dL_next_9 (by decide) ?_
  refine pv_iconst hx hb dL_next_15 ?_
  exact wr_iret hx hb hr hlocks hS dL_next_16 rfl ⟨CW_fr (A := fun q => q = o) hCP.2 (fun q _ h => hk2 q h) (fun q h z => hoC (by rw [← z]; exact h)), lf2, hv2, hPo2⟩
set_option maxHeartbeats 4000000 in
set_option maxRecDepth 100000 in
theorem v_next (l : Launch) (D : va_G) (cI cZ cJ : ClassId) (base st : Nat) (Z : Nat → Nat) (x0 x1 x2 x5 x6 x7 o : Nat) {n came MV : Int} {F G SP RF RC : Int → Int} (hfl : l.stackTraces = false) (hn : 0 ≤ n ∧ n ≤ 60) (hF : ∀ k : Int, 0 ≤ k → k < n → 0 ≤ F k ∧ F k < 200) (x : Int) (hxr : (-2147483648 ≤ x ∧ x ≤ 2147483647)) (hrp : PL F n x (-1)) : wr_M l yL_next wsL_next ({ frames := 8, cells := 1, slots := 6, locals := 135 } : Room) [.ref x0, .int (iI (x)), .ref o] (WP D cI cZ cJ base st Z x0 x1 x2 x5 x6 x7 o n came MV F G SP RF RC) 1 (fun H => CW D cI base x0 x1 x2 x5 x6 x7 n came MV F G SP RF RC H ∧ ∃ lf, OC D cJ o lf H) (mO x0 x1 x2 x5 x6 x7 o) 1 6 := by
  refine wr_of (cc := cL_next) (maxL := 4) (ret := (some .int)) (own := RL) (hh := [(0, 9, 12, 19)]) (by decide) rfl rfl (Nat.le_of_ble_eq_true rfl) ?_
  intro p e s m below meth c ls B hTab hWP hl hS
  obtain ⟨hx, hb, hml, hr, hts, hown, hlocks⟩ := B
  obtain ⟨hCP, hKJ, ⟨lf, hPo⟩, hoC, hnc1, hnc2⟩ := hWP
  have hl : lv_has ls 4 [(0, .ref x0), (1, .int (iI (x))), (2, .ref o)] := hl
  refine lv_aload_n hx hb dL_next_0 rfl (lv_at hl 2 rfl) ?_
  refine pv_iconst hx hb dL_next_1 ?_
  refine lv_aload_n hx hb dL_next_2 rfl (lv_at hl 0 rfl) ?_
  refine lv_iload_n hx hb dL_next_3 rfl (lv_at hl 1 rfl) ?_
  refine th_callV (As := [.int (iI (x))]) (rest := [.int (iI 0), .ref o]) CP_mv ⟨hx, hb, hml, hown, hts⟩ (t_next l D cI cZ base st Z x0 x1 x2 x5 x6 x7 hfl hn hF x hxr hrp) (cwV 1 hts gL_next_X0_next rfl rfl rfl (by decide +kernel) ⟨(Nat.le_of_ble_eq_true rfl), (Nat.le_of_ble_eq_true rfl)⟩) hCP (CP_rc hCP) rfl rfl hl.1 (Nat.le_of_ble_eq_true rfl) dL_next_4 ⟨(Nat.le_of_ble_eq_true rfl), (Nat.le_of_ble_eq_true rfl)⟩ (fun H1 ce q9 h1 h2 h3 h4 h5 => ?_)
  obtain ⟨hK, hZL, hst9, hTW⟩ := id hCP.1
  obtain ⟨tw0, tw1, tw2, tw3, tw4, tw5, kw0, kw1, kw2, kd0, kd1, kd2, hU9, hN9⟩ := hTW
  refine vx_catch (own := RL) (name := "java/lang/IndexOutOfBoundsException") hown [] ⟨0, 9, 12, 19⟩ [] (hTab.trans rfl) (fun z hz => by cases hz) rfl (by decide) (hts (.classLink RL 19 "java/lang/IndexOutOfBoundsException") (by decide +kernel)) (va_Nw.use rfl kw0) h3 h4 h5 ?_
  show W p l e _ s m _ below meth c H1 [] (0 + 1) (0 + 6) _ (F0 m 12 ls [.ref q9])
  refine lv_astore_n (lv' := [(3, .ref q9), (0, .ref x0), (1, .int (iI (x))), (2, .ref o)]) hx hb dL_next_12 rfl hl (by decide) rfl (fun ls hl => ?_)
  refine pv_iconst hx hb dL_next_13 ?_
  have hk : ∀ q : Nat, q < s.heap.size → ¬ (fun _ => False) q → H1[q]? = s.heap[q]? := fun q a _ => h2 q a
  exact wr_iret hx hb hr hlocks ⟨h1, fun q a _ => h2 q a, fun _ h => by cases h⟩ dL_next_14 rfl ⟨CW_fr hCP.2 hk (fun _ _ h => h), lf, OC_fr hPo hk (fun h => h)⟩
set_option maxHeartbeats 4000000 in
set_option maxRecDepth 100000 in
theorem w_previous (l : Launch) (D : va_G) (cI cZ cJ : ClassId) (base st : Nat) (Z : Nat → Nat) (x0 x1 x2 x5 x6 x7 o : Nat) {n came MV : Int} {F G SP RF RC : Int → Int} (hn : 0 ≤ n ∧ n ≤ 60) (hF : ∀ k : Int, 0 ≤ k → k < n → 0 ≤ F k ∧ F k < 200) (x : Int) (hxr : (-2147483648 ≤ x ∧ x ≤ 2147483647)) (rp : Int) (hrp : PL F n x rp) (h0 : 0 ≤ rp) (r : Int) (hr9 : r = fa F n (rp - 1)) : wr_M l yL_previous wsL_previous ({ frames := 3, cells := 0, slots := 0, locals := 65 } : Room) [.ref x0, .int (iI (x)), .ref o] (WP D cI cZ cJ base st Z x0 x1 x2 x5 x6 x7 o n came MV F G SP RF RC) 0 (fun H => CW D cI base x0 x1 x2 x5 x6 x7 n came MV F G SP RF RC H ∧ ∃ lf, lf 0 = (iI (r)).toInt64 ∧ OC D cJ o lf H) (mO x0 x1 x2 x5 x6 x7 o) 0 0 := by
  refine wr_of (cc := cL_previous) (maxL := 4) (ret := (some .int)) (own := RL) (hh := [(0, 9, 12, 19)]) (by decide) rfl rfl (Nat.le_of_ble_eq_true rfl) ?_
  intro p e s m below meth c ls B hTab hWP hl hS
  obtain ⟨hx, hb, hml, hr, hts, hown, hlocks⟩ := B
  obtain ⟨hCP, hKJ, ⟨lf, hPo⟩, hoC, hnc1, hnc2⟩ := hWP
  have hl : lv_has ls 4 [(0, .ref x0), (1, .int (iI (x))), (2, .ref o)] := hl
  refine lv_aload_n hx hb dL_previous_0 rfl (lv_at hl 2 rfl) ?_
  refine pv_iconst hx hb dL_previous_1 ?_
  refine lv_aload_n hx hb dL_previous_2 rfl (lv_at hl 0 rfl) ?_
  refine lv_iload_n hx hb dL_previous_3 rfl (lv_at hl 1 rfl) ?_
  refine pu_callV (v := r) (As := [.int (iI (x))]) (rest := [.int (iI 0), .ref o]) CP_mv ⟨hx, hb, hml, hown, hts⟩ (c_previous l D cI cZ base st Z x0 x1 x2 x5 x6 x7 hn hF x hxr rp hrp h0 r hr9) (cwV 1 hts gL_previous_X0_previous rfl rfl rfl (by decide +kernel) ⟨(Nat.le_of_ble_eq_true rfl), (Nat.le_of_ble_eq_true rfl)⟩) hCP (CP_rc hCP) rfl rfl hl.1 (Nat.le_of_ble_eq_true rfl) dL_previous_4 ⟨Nat.zero_le _, Nat.zero_le _⟩ ?_
  refine lv_i2l (v := (iI (r)).toInt64) hx hb dL_previous_7 rfl ?_
  refine pv_last (v := (iI (r)).toInt64) hx hb hKJ hPo hS (Or.inr rfl) dL_previous_8 (fun H1 locs1 lf2 hv2 hPo2 hz2 hk2 hS => ?_)
  refine lv_goto (tgt := 15) hx hb dL_previous_9 (by decide) ?_
  refine pv_iconst hx hb dL_previous_15 ?_
  exact wr_iret hx hb hr hlocks hS dL_previous_16 rfl ⟨CW_fr (A := fun q => q = o) hCP.2 (fun q _ h => hk2 q h) (fun q h z => hoC (by rw [← z]; exact h)), lf2, hv2, hPo2⟩
set_option maxHeartbeats 4000000 in
set_option maxRecDepth 100000 in
theorem v_previous (l : Launch) (D : va_G) (cI cZ cJ : ClassId) (base st : Nat) (Z : Nat → Nat) (x0 x1 x2 x5 x6 x7 o : Nat) {n came MV : Int} {F G SP RF RC : Int → Int} (hfl : l.stackTraces = false) (hn : 0 ≤ n ∧ n ≤ 60) (hF : ∀ k : Int, 0 ≤ k → k < n → 0 ≤ F k ∧ F k < 200) (x : Int) (hxr : (-2147483648 ≤ x ∧ x ≤ 2147483647)) (hrp : PL F n x (-1)) : wr_M l yL_previous wsL_previous ({ frames := 8, cells := 1, slots := 6, locals := 135 } : Room) [.ref x0, .int (iI (x)), .ref o] (WP D cI cZ cJ base st Z x0 x1 x2 x5 x6 x7 o n came MV F G SP RF RC) 1 (fun H => CW D cI base x0 x1 x2 x5 x6 x7 n came MV F G SP RF RC H ∧ ∃ lf, OC D cJ o lf H) (mO x0 x1 x2 x5 x6 x7 o) 1 6 := by
  refine wr_of (cc := cL_previous) (maxL := 4) (ret := (some .int)) (own := RL) (hh := [(0, 9, 12, 19)]) (by decide) rfl rfl (Nat.le_of_ble_eq_true rfl) ?_
  intro p e s m below meth c ls B hTab hWP hl hS
  obtain ⟨hx, hb, hml, hr, hts, hown, hlocks⟩ := B
  obtain ⟨hCP, hKJ, ⟨lf, hPo⟩, hoC, hnc1, hnc2⟩ := hWP
  have hl : lv_has ls 4 [(0, .ref x0), (1, .int (iI (x))), (2, .ref o)] := hl
  refine lv_aload_n hx hb dL_previous_0 rfl (lv_at hl 2 rfl) ?_
  refine pv_iconst hx hb dL_previous_1 ?_
  refine lv_aload_n hx hb dL_previous_2 rfl (lv_at hl 0 rfl) ?_
  refine lv_iload_n hx hb dL_previous_3 rfl (lv_at hl 1 rfl) ?_
  refine th_callV (As := [.int (iI (x))]) (rest := [.int (iI 0), .ref o]) CP_mv ⟨hx, hb, hml, hown, hts⟩ (t_previous l D cI cZ base st Z x0 x1 x2 x5 x6 x7 hfl hn hF x hxr hrp) (cwV 1 hts gL_previous_X0_previous rfl rfl rfl (by decide +kernel) ⟨(Nat.le_of_ble_eq_true rfl), (Nat.le_of_ble_eq_true rfl)⟩) hCP (CP_rc hCP) rfl rfl hl.1 (Nat.le_of_ble_eq_true rfl) dL_previous_4 ⟨(Nat.le_of_ble_eq_true rfl), (Nat.le_of_ble_eq_true rfl)⟩ (fun H1 ce q9 h1 h2 h3 h4 h5 => ?_)
  obtain ⟨hK, hZL, hst9, hTW⟩ := id hCP.1
  obtain ⟨tw0, tw1, tw2, tw3, tw4, tw5, kw0, kw1, kw2, kd0, kd1, kd2, hU9, hN9⟩ := hTW
  refine vx_catch (own := RL) (name := "java/lang/IndexOutOfBoundsException") hown [] ⟨0, 9, 12, 19⟩ [] (hTab.trans rfl) (fun z hz => by cases hz) rfl (by decide) (hts (.classLink RL 19 "java/lang/IndexOutOfBoundsException") (by decide +kernel)) (va_Nw.use rfl kw0) h3 h4 h5 ?_
  show W p l e _ s m _ below meth c H1 [] (0 + 1) (0 + 6) _ (F0 m 12 ls [.ref q9])
  refine lv_astore_n (lv' := [(3, .ref q9), (0, .ref x0), (1, .int (iI (x))), (2, .ref o)]) hx hb dL_previous_12 rfl hl (by decide) rfl (fun ls hl => ?_)
  refine pv_iconst hx hb dL_previous_13 ?_
  have hk : ∀ q : Nat, q < s.heap.size → ¬ (fun _ => False) q → H1[q]? = s.heap[q]? := fun q a _ => h2 q a
  exact wr_iret hx hb hr hlocks ⟨h1, fun q a _ => h2 q a, fun _ h => by cases h⟩ dL_previous_14 rfl ⟨CW_fr hCP.2 hk (fun _ _ h => h), lf, OC_fr hPo hk (fun h => h)⟩
set_option maxHeartbeats 4000000 in
set_option maxRecDepth 100000 in
theorem w_mark (l : Launch) (D : va_G) (cI cZ cJ : ClassId) (base st : Nat) (Z : Nat → Nat) (x0 x1 x2 x5 x6 x7 o : Nat) {n came MV : Int} {F G SP RF RC : Int → Int} (hn : 0 ≤ n ∧ n ≤ 60) (hF : ∀ k : Int, 0 ≤ k → k < n → 0 ≤ F k ∧ F k < 200) (x : Int) (hxr : (-2147483648 ≤ x ∧ x ≤ 2147483647)) (rp : Int) (hrp : PL F n x rp) (h0 : 0 ≤ rp) : wr_M l yL_mark wsL_mark ({ frames := 3, cells := 0, slots := 0, locals := 65 } : Room) [.ref x0, .int (iI (x)), .ref o] (WP D cI cZ cJ base st Z x0 x1 x2 x5 x6 x7 o n came MV F G SP RF RC) 0 (fun H => CW D cI base x0 x1 x2 x5 x6 x7 n came MV F G SP RF RC H ∧ ∃ lf, lf 0 = (iI (G rp)).toInt64 ∧ OC D cJ o lf H) (mO x0 x1 x2 x5 x6 x7 o) 0 0 := by
  refine wr_of (cc := cL_mark) (maxL := 4) (ret := (some .int)) (own := RL) (hh := [(0, 9, 12, 19)]) (by decide) rfl rfl (Nat.le_of_ble_eq_true rfl) ?_
  intro p e s m below meth c ls B hTab hWP hl hS
  obtain ⟨hx, hb, hml, hr, hts, hown, hlocks⟩ := B
  obtain ⟨hCP, hKJ, ⟨lf, hPo⟩, hoC, hnc1, hnc2⟩ := hWP
  have hl : lv_has ls 4 [(0, .ref x0), (1, .int (iI (x))), (2, .ref o)] := hl
  refine lv_aload_n hx hb dL_mark_0 rfl (lv_at hl 2 rfl) ?_
  refine pv_iconst hx hb dL_mark_1 ?_
  refine lv_aload_n hx hb dL_mark_2 rfl (lv_at hl 0 rfl) ?_
  refine lv_iload_n hx hb dL_mark_3 rfl (lv_at hl 1 rfl) ?_
  refine pu_callV (v := G rp) (As := [.int (iI (x))]) (rest := [.int (iI 0), .ref o]) CP_mv ⟨hx, hb, hml, hown, hts⟩ (c_mark l D cI cZ base st Z x0 x1 x2 x5 x6 x7 hn hF x hxr rp hrp h0) (cwV 1 hts gL_mark_X0_mark rfl rfl rfl (by decide +kernel) ⟨(Nat.le_of_ble_eq_true rfl), (Nat.le_of_ble_eq_true rfl)⟩) hCP (CP_rc hCP) rfl rfl hl.1 (Nat.le_of_ble_eq_true rfl) dL_mark_4 ⟨Nat.zero_le _, Nat.zero_le _⟩ ?_
  refine lv_i2l (v := (iI (G rp)).toInt64) hx hb dL_mark_7 rfl ?_
  refine pv_last (v := (iI (G rp)).toInt64) hx hb hKJ hPo hS (Or.inr rfl) dL_mark_8 (fun H1 locs1 lf2 hv2 hPo2 hz2 hk2 hS => ?_)
  refine lv_goto (tgt := 15) hx hb dL_mark_9 (by decide) ?_
  refine pv_iconst hx hb dL_mark_15 ?_
  exact wr_iret hx hb hr hlocks hS dL_mark_16 rfl ⟨CW_fr (A := fun q => q = o) hCP.2 (fun q _ h => hk2 q h) (fun q h z => hoC (by rw [← z]; exact h)), lf2, hv2, hPo2⟩
set_option maxHeartbeats 4000000 in
set_option maxRecDepth 100000 in
theorem v_mark (l : Launch) (D : va_G) (cI cZ cJ : ClassId) (base st : Nat) (Z : Nat → Nat) (x0 x1 x2 x5 x6 x7 o : Nat) {n came MV : Int} {F G SP RF RC : Int → Int} (hfl : l.stackTraces = false) (hn : 0 ≤ n ∧ n ≤ 60) (hF : ∀ k : Int, 0 ≤ k → k < n → 0 ≤ F k ∧ F k < 200) (x : Int) (hxr : (-2147483648 ≤ x ∧ x ≤ 2147483647)) (hrp : PL F n x (-1)) : wr_M l yL_mark wsL_mark ({ frames := 8, cells := 1, slots := 6, locals := 135 } : Room) [.ref x0, .int (iI (x)), .ref o] (WP D cI cZ cJ base st Z x0 x1 x2 x5 x6 x7 o n came MV F G SP RF RC) 1 (fun H => CW D cI base x0 x1 x2 x5 x6 x7 n came MV F G SP RF RC H ∧ ∃ lf, OC D cJ o lf H) (mO x0 x1 x2 x5 x6 x7 o) 1 6 := by
  refine wr_of (cc := cL_mark) (maxL := 4) (ret := (some .int)) (own := RL) (hh := [(0, 9, 12, 19)]) (by decide) rfl rfl (Nat.le_of_ble_eq_true rfl) ?_
  intro p e s m below meth c ls B hTab hWP hl hS
  obtain ⟨hx, hb, hml, hr, hts, hown, hlocks⟩ := B
  obtain ⟨hCP, hKJ, ⟨lf, hPo⟩, hoC, hnc1, hnc2⟩ := hWP
  have hl : lv_has ls 4 [(0, .ref x0), (1, .int (iI (x))), (2, .ref o)] := hl
  refine lv_aload_n hx hb dL_mark_0 rfl (lv_at hl 2 rfl) ?_
  refine pv_iconst hx hb dL_mark_1 ?_
  refine lv_aload_n hx hb dL_mark_2 rfl (lv_at hl 0 rfl) ?_
  refine lv_iload_n hx hb dL_mark_3 rfl (lv_at hl 1 rfl) ?_
  refine th_callV (As := [.int (iI (x))]) (rest := [.int (iI 0), .ref o]) CP_mv ⟨hx, hb, hml, hown, hts⟩ (t_mark l D cI cZ base st Z x0 x1 x2 x5 x6 x7 hfl hn hF x hxr hrp) (cwV 1 hts gL_mark_X0_mark rfl rfl rfl (by decide +kernel) ⟨(Nat.le_of_ble_eq_true rfl), (Nat.le_of_ble_eq_true rfl)⟩) hCP (CP_rc hCP) rfl rfl hl.1 (Nat.le_of_ble_eq_true rfl) dL_mark_4 ⟨(Nat.le_of_ble_eq_true rfl), (Nat.le_of_ble_eq_true rfl)⟩ (fun H1 ce q9 h1 h2 h3 h4 h5 => ?_)
  obtain ⟨hK, hZL, hst9, hTW⟩ := id hCP.1
  obtain ⟨tw0, tw1, tw2, tw3, tw4, tw5, kw0, kw1, kw2, kd0, kd1, kd2, hU9, hN9⟩ := hTW
  refine vx_catch (own := RL) (name := "java/lang/IndexOutOfBoundsException") hown [] ⟨0, 9, 12, 19⟩ [] (hTab.trans rfl) (fun z hz => by cases hz) rfl (by decide) (hts (.classLink RL 19 "java/lang/IndexOutOfBoundsException") (by decide +kernel)) (va_Nw.use rfl kw0) h3 h4 h5 ?_
  show W p l e _ s m _ below meth c H1 [] (0 + 1) (0 + 6) _ (F0 m 12 ls [.ref q9])
  refine lv_astore_n (lv' := [(3, .ref q9), (0, .ref x0), (1, .int (iI (x))), (2, .ref o)]) hx hb dL_mark_12 rfl hl (by decide) rfl (fun ls hl => ?_)
  refine pv_iconst hx hb dL_mark_13 ?_
  have hk : ∀ q : Nat, q < s.heap.size → ¬ (fun _ => False) q → H1[q]? = s.heap[q]? := fun q a _ => h2 q a
  exact wr_iret hx hb hr hlocks ⟨h1, fun q a _ => h2 q a, fun _ h => by cases h⟩ dL_mark_14 rfl ⟨CW_fr hCP.2 hk (fun _ _ h => h), lf, OC_fr hPo hk (fun h => h)⟩
set_option maxHeartbeats 4000000 in
set_option maxRecDepth 100000 in
theorem w_ahead (l : Launch) (D : va_G) (cI cZ cJ : ClassId) (base st : Nat) (Z : Nat → Nat) (x0 x1 x2 x5 x6 x7 o : Nat) {n came MV : Int} {F G SP RF RC : Int → Int} (hn : 0 ≤ n ∧ n ≤ 60) (hF : ∀ k : Int, 0 ≤ k → k < n → 0 ≤ F k ∧ F k < 200) (x : Int) (hxr : (-2147483648 ≤ x ∧ x ≤ 2147483647)) (rp : Int) (hrp : PL F n x rp) (h0 : 0 ≤ rp) (hG : ∀ k : Int, 0 ≤ k → k < n → 0 ≤ G k ∧ G k ≤ 255) (hs : SD G n) : wr_M l yL_ahead wsL_ahead ({ frames := 3, cells := 0, slots := 0, locals := 65 } : Room) [.ref x0, .int (iI (x)), .ref o] (WP D cI cZ cJ base st Z x0 x1 x2 x5 x6 x7 o n came MV F G SP RF RC) 0 (fun H => CW D cI base x0 x1 x2 x5 x6 x7 n came MV F G SP RF RC H ∧ ∃ lf, lf 0 = (iI (mb G n (G rp))).toInt64 ∧ OC D cJ o lf H) (mO x0 x1 x2 x5 x6 x7 o) 0 0 := by
  refine wr_of (cc := cL_ahead) (maxL := 4) (ret := (some .int)) (own := RL) (hh := [(0, 9, 12, 19)]) (by decide) rfl rfl (Nat.le_of_ble_eq_true rfl) ?_
  intro p e s m below meth c ls B hTab hWP hl hS
  obtain ⟨hx, hb, hml, hr, hts, hown, hlocks⟩ := B
  obtain ⟨hCP, hKJ, ⟨lf, hPo⟩, hoC, hnc1, hnc2⟩ := hWP
  have hl : lv_has ls 4 [(0, .ref x0), (1, .int (iI (x))), (2, .ref o)] := hl
  refine lv_aload_n hx hb dL_ahead_0 rfl (lv_at hl 2 rfl) ?_
  refine pv_iconst hx hb dL_ahead_1 ?_
  refine lv_aload_n hx hb dL_ahead_2 rfl (lv_at hl 0 rfl) ?_
  refine lv_iload_n hx hb dL_ahead_3 rfl (lv_at hl 1 rfl) ?_
  refine pu_callV (v := mb G n (G rp)) (As := [.int (iI (x))]) (rest := [.int (iI 0), .ref o]) CP_mv ⟨hx, hb, hml, hown, hts⟩ (c_ahead l D cI cZ base st Z x0 x1 x2 x5 x6 x7 hn hF x hxr rp hrp h0 hG hs) (cwV 1 hts gL_ahead_X0_ahead rfl rfl rfl (by decide +kernel) ⟨(Nat.le_of_ble_eq_true rfl), (Nat.le_of_ble_eq_true rfl)⟩) hCP (CP_rc hCP) rfl rfl hl.1 (Nat.le_of_ble_eq_true rfl) dL_ahead_4 ⟨Nat.zero_le _, Nat.zero_le _⟩ ?_
  refine lv_i2l (v := (iI (mb G n (G rp))).toInt64) hx hb dL_ahead_7 rfl ?_
  refine pv_last (v := (iI (mb G n (G rp))).toInt64) hx hb hKJ hPo hS (Or.inr rfl) dL_ahead_8 (fun H1 locs1 lf2 hv2 hPo2 hz2 hk2 hS => ?_)
  refine lv_goto (tgt := 15) hx hb dL_ahead_9 (by decide) ?_
  refine pv_iconst hx hb dL_ahead_15 ?_
  exact wr_iret hx hb hr hlocks hS dL_ahead_16 rfl ⟨CW_fr (A := fun q => q = o) hCP.2 (fun q _ h => hk2 q h) (fun q h z => hoC (by rw [← z]; exact h)), lf2, hv2, hPo2⟩
set_option maxHeartbeats 4000000 in
set_option maxRecDepth 100000 in
theorem v_ahead (l : Launch) (D : va_G) (cI cZ cJ : ClassId) (base st : Nat) (Z : Nat → Nat) (x0 x1 x2 x5 x6 x7 o : Nat) {n came MV : Int} {F G SP RF RC : Int → Int} (hfl : l.stackTraces = false) (hn : 0 ≤ n ∧ n ≤ 60) (hF : ∀ k : Int, 0 ≤ k → k < n → 0 ≤ F k ∧ F k < 200) (x : Int) (hxr : (-2147483648 ≤ x ∧ x ≤ 2147483647)) (hrp : PL F n x (-1)) : wr_M l yL_ahead wsL_ahead ({ frames := 8, cells := 1, slots := 6, locals := 135 } : Room) [.ref x0, .int (iI (x)), .ref o] (WP D cI cZ cJ base st Z x0 x1 x2 x5 x6 x7 o n came MV F G SP RF RC) 1 (fun H => CW D cI base x0 x1 x2 x5 x6 x7 n came MV F G SP RF RC H ∧ ∃ lf, OC D cJ o lf H) (mO x0 x1 x2 x5 x6 x7 o) 1 6 := by
  refine wr_of (cc := cL_ahead) (maxL := 4) (ret := (some .int)) (own := RL) (hh := [(0, 9, 12, 19)]) (by decide) rfl rfl (Nat.le_of_ble_eq_true rfl) ?_
  intro p e s m below meth c ls B hTab hWP hl hS
  obtain ⟨hx, hb, hml, hr, hts, hown, hlocks⟩ := B
  obtain ⟨hCP, hKJ, ⟨lf, hPo⟩, hoC, hnc1, hnc2⟩ := hWP
  have hl : lv_has ls 4 [(0, .ref x0), (1, .int (iI (x))), (2, .ref o)] := hl
  refine lv_aload_n hx hb dL_ahead_0 rfl (lv_at hl 2 rfl) ?_
  refine pv_iconst hx hb dL_ahead_1 ?_
  refine lv_aload_n hx hb dL_ahead_2 rfl (lv_at hl 0 rfl) ?_
  refine lv_iload_n hx hb dL_ahead_3 rfl (lv_at hl 1 rfl) ?_
  refine th_callV (As := [.int (iI (x))]) (rest := [.int (iI 0), .ref o]) CP_mv ⟨hx, hb, hml, hown, hts⟩ (t_ahead l D cI cZ base st Z x0 x1 x2 x5 x6 x7 hfl hn hF x hxr hrp) (cwV 1 hts gL_ahead_X0_ahead rfl rfl rfl (by decide +kernel) ⟨(Nat.le_of_ble_eq_true rfl), (Nat.le_of_ble_eq_true rfl)⟩) hCP (CP_rc hCP) rfl rfl hl.1 (Nat.le_of_ble_eq_true rfl) dL_ahead_4 ⟨(Nat.le_of_ble_eq_true rfl), (Nat.le_of_ble_eq_true rfl)⟩ (fun H1 ce q9 h1 h2 h3 h4 h5 => ?_)
  obtain ⟨hK, hZL, hst9, hTW⟩ := id hCP.1
  obtain ⟨tw0, tw1, tw2, tw3, tw4, tw5, kw0, kw1, kw2, kd0, kd1, kd2, hU9, hN9⟩ := hTW
  refine vx_catch (own := RL) (name := "java/lang/IndexOutOfBoundsException") hown [] ⟨0, 9, 12, 19⟩ [] (hTab.trans rfl) (fun z hz => by cases hz) rfl (by decide) (hts (.classLink RL 19 "java/lang/IndexOutOfBoundsException") (by decide +kernel)) (va_Nw.use rfl kw0) h3 h4 h5 ?_
  show W p l e _ s m _ below meth c H1 [] (0 + 1) (0 + 6) _ (F0 m 12 ls [.ref q9])
  refine lv_astore_n (lv' := [(3, .ref q9), (0, .ref x0), (1, .int (iI (x))), (2, .ref o)]) hx hb dL_ahead_12 rfl hl (by decide) rfl (fun ls hl => ?_)
  refine pv_iconst hx hb dL_ahead_13 ?_
  have hk : ∀ q : Nat, q < s.heap.size → ¬ (fun _ => False) q → H1[q]? = s.heap[q]? := fun q a _ => h2 q a
  exact wr_iret hx hb hr hlocks ⟨h1, fun q a _ => h2 q a, fun _ h => by cases h⟩ dL_ahead_14 rfl ⟨CW_fr hCP.2 hk (fun _ _ h => h), lf, OC_fr hPo hk (fun h => h)⟩
set_option maxHeartbeats 4000000 in
set_option maxRecDepth 100000 in
theorem w_gapBehind (l : Launch) (D : va_G) (cI cZ cJ : ClassId) (base st : Nat) (Z : Nat → Nat) (x0 x1 x2 x5 x6 x7 o : Nat) {n came MV : Int} {F G SP RF RC : Int → Int} (hn : 0 ≤ n ∧ n ≤ 60) (hF : ∀ k : Int, 0 ≤ k → k < n → 0 ≤ F k ∧ F k < 200) (x : Int) (hxr : (-2147483648 ≤ x ∧ x ≤ 2147483647)) (rp : Int) (hrp : PL F n x rp) (h0 : 0 ≤ rp) (hG : ∀ k : Int, 0 ≤ k → k < n → 0 ≤ G k ∧ G k ≤ 255) : wr_M l yL_gapBehind wsL_gapBehind ({ frames := 3, cells := 0, slots := 0, locals := 66 } : Room) [.ref x0, .int (iI (x)), .ref o] (WP D cI cZ cJ base st Z x0 x1 x2 x5 x6 x7 o n came MV F G SP RF RC) 0 (fun H => CW D cI base x0 x1 x2 x5 x6 x7 n came MV F G SP RF RC H ∧ ∃ lf, lf 0 = (iI (ma G n (rp + 1) - G rp - 1)).toInt64 ∧ OC D cJ o lf H) (mO x0 x1 x2 x5 x6 x7 o) 0 0 := by
  refine wr_of (cc := cL_gapBehind) (maxL := 4) (ret := (some .int)) (own := RL) (hh := [(0, 9, 12, 19)]) (by decide) rfl rfl (Nat.le_of_ble_eq_true rfl) ?_
  intro p e s m below meth c ls B hTab hWP hl hS
  obtain ⟨hx, hb, hml, hr, hts, hown, hlocks⟩ := B
  obtain ⟨hCP, hKJ, ⟨lf, hPo⟩, hoC, hnc1, hnc2⟩ := hWP
  have hl : lv_has ls 4 [(0, .ref x0), (1, .int (iI (x))), (2, .ref o)] := hl
  refine lv_aload_n hx hb dL_gapBehind_0 rfl (lv_at hl 2 rfl) ?_
  refine pv_iconst hx hb dL_gapBehind_1 ?_
  refine lv_aload_n hx hb dL_gapBehind_2 rfl (lv_at hl 0 rfl) ?_
  refine lv_iload_n hx hb dL_gapBehind_3 rfl (lv_at hl 1 rfl) ?_
  refine pu_callV (v := ma G n (rp + 1) - G rp - 1) (As := [.int (iI (x))]) (rest := [.int (iI 0), .ref o]) CP_mv ⟨hx, hb, hml, hown, hts⟩ (c_gapBehind l D cI cZ base st Z x0 x1 x2 x5 x6 x7 hn hF x hxr rp hrp h0 hG) (cwV 1 hts gL_gapBehind_X0_gapBehind rfl rfl rfl (by decide +kernel) ⟨(Nat.le_of_ble_eq_true rfl), (Nat.le_of_ble_eq_true rfl)⟩) hCP (CP_rc hCP) rfl rfl hl.1 (Nat.le_of_ble_eq_true rfl) dL_gapBehind_4 ⟨Nat.zero_le _, Nat.zero_le _⟩ ?_
  refine lv_i2l (v := (iI (ma G n (rp + 1) - G rp - 1)).toInt64) hx hb dL_gapBehind_7 rfl ?_
  refine pv_last (v := (iI (ma G n (rp + 1) - G rp - 1)).toInt64) hx hb hKJ hPo hS (Or.inr rfl) dL_gapBehind_8 (fun H1 locs1 lf2 hv2 hPo2 hz2 hk2 hS => ?_)
  refine lv_goto (tgt := 15) hx hb dL_gapBehind_9 (by decide) ?_
  refine pv_iconst hx hb dL_gapBehind_15 ?_
  exact wr_iret hx hb hr hlocks hS dL_gapBehind_16 rfl ⟨CW_fr (A := fun q => q = o) hCP.2 (fun q _ h => hk2 q h) (fun q h z => hoC (by rw [← z]; exact h)), lf2, hv2, hPo2⟩
set_option maxHeartbeats 4000000 in
set_option maxRecDepth 100000 in
theorem v_gapBehind (l : Launch) (D : va_G) (cI cZ cJ : ClassId) (base st : Nat) (Z : Nat → Nat) (x0 x1 x2 x5 x6 x7 o : Nat) {n came MV : Int} {F G SP RF RC : Int → Int} (hfl : l.stackTraces = false) (hn : 0 ≤ n ∧ n ≤ 60) (hF : ∀ k : Int, 0 ≤ k → k < n → 0 ≤ F k ∧ F k < 200) (x : Int) (hxr : (-2147483648 ≤ x ∧ x ≤ 2147483647)) (hrp : PL F n x (-1)) : wr_M l yL_gapBehind wsL_gapBehind ({ frames := 8, cells := 1, slots := 6, locals := 136 } : Room) [.ref x0, .int (iI (x)), .ref o] (WP D cI cZ cJ base st Z x0 x1 x2 x5 x6 x7 o n came MV F G SP RF RC) 1 (fun H => CW D cI base x0 x1 x2 x5 x6 x7 n came MV F G SP RF RC H ∧ ∃ lf, OC D cJ o lf H) (mO x0 x1 x2 x5 x6 x7 o) 1 6 := by
  refine wr_of (cc := cL_gapBehind) (maxL := 4) (ret := (some .int)) (own := RL) (hh := [(0, 9, 12, 19)]) (by decide) rfl rfl (Nat.le_of_ble_eq_true rfl) ?_
  intro p e s m below meth c ls B hTab hWP hl hS
  obtain ⟨hx, hb, hml, hr, hts, hown, hlocks⟩ := B
  obtain ⟨hCP, hKJ, ⟨lf, hPo⟩, hoC, hnc1, hnc2⟩ := hWP
  have hl : lv_has ls 4 [(0, .ref x0), (1, .int (iI (x))), (2, .ref o)] := hl
  refine lv_aload_n hx hb dL_gapBehind_0 rfl (lv_at hl 2 rfl) ?_
  refine pv_iconst hx hb dL_gapBehind_1 ?_
  refine lv_aload_n hx hb dL_gapBehind_2 rfl (lv_at hl 0 rfl) ?_
  refine lv_iload_n hx hb dL_gapBehind_3 rfl (lv_at hl 1 rfl) ?_
  refine th_callV (As := [.int (iI (x))]) (rest := [.int (iI 0), .ref o]) CP_mv ⟨hx, hb, hml, hown, hts⟩ (t_gapBehind l D cI cZ base st Z x0 x1 x2 x5 x6 x7 hfl hn hF x hxr hrp) (cwV 1 hts gL_gapBehind_X0_gapBehind rfl rfl rfl (by decide +kernel) ⟨(Nat.le_of_ble_eq_true rfl), (Nat.le_of_ble_eq_true rfl)⟩) hCP (CP_rc hCP) rfl rfl hl.1 (Nat.le_of_ble_eq_true rfl) dL_gapBehind_4 ⟨(Nat.le_of_ble_eq_true rfl), (Nat.le_of_ble_eq_true rfl)⟩ (fun H1 ce q9 h1 h2 h3 h4 h5 => ?_)
  obtain ⟨hK, hZL, hst9, hTW⟩ := id hCP.1
  obtain ⟨tw0, tw1, tw2, tw3, tw4, tw5, kw0, kw1, kw2, kd0, kd1, kd2, hU9, hN9⟩ := hTW
  refine vx_catch (own := RL) (name := "java/lang/IndexOutOfBoundsException") hown [] ⟨0, 9, 12, 19⟩ [] (hTab.trans rfl) (fun z hz => by cases hz) rfl (by decide) (hts (.classLink RL 19 "java/lang/IndexOutOfBoundsException") (by decide +kernel)) (va_Nw.use rfl kw0) h3 h4 h5 ?_
  show W p l e _ s m _ below meth c H1 [] (0 + 1) (0 + 6) _ (F0 m 12 ls [.ref q9])
  refine lv_astore_n (lv' := [(3, .ref q9), (0, .ref x0), (1, .int (iI (x))), (2, .ref o)]) hx hb dL_gapBehind_12 rfl hl (by decide) rfl (fun ls hl => ?_)
  refine pv_iconst hx hb dL_gapBehind_13 ?_
  have hk : ∀ q : Nat, q < s.heap.size → ¬ (fun _ => False) q → H1[q]? = s.heap[q]? := fun q a _ => h2 q a
  exact wr_iret hx hb hr hlocks ⟨h1, fun q a _ => h2 q a, fun _ h => by cases h⟩ dL_gapBehind_14 rfl ⟨CW_fr hCP.2 hk (fun _ _ h => h), lf, OC_fr hPo hk (fun h => h)⟩
set_option maxHeartbeats 4000000 in
set_option maxRecDepth 100000 in
theorem w_loaded (l : Launch) (D : va_G) (cI cZ cJ : ClassId) (base st : Nat) (Z : Nat → Nat) (x0 x1 x2 x5 x6 x7 o : Nat) {n came MV : Int} {F G SP RF RC : Int → Int} (hn : 0 ≤ n ∧ n ≤ 60) (hG : ∀ k : Int, 0 ≤ k → k < n → 0 ≤ G k ∧ G k ≤ 255) (hs : SD G n) (lv : Int) (hlv : 0 ≤ lv ∧ lv ≤ 8) : wr_M l yL_loaded wsL_loaded ({ frames := 4, cells := 0, slots := 0, locals := 91 } : Room) [.ref x0, .int (iI (lv)), .ref o] (WP D cI cZ cJ base st Z x0 x1 x2 x5 x6 x7 o n came MV F G SP RF RC) 0 (fun H => CW D cI base x0 x1 x2 x5 x6 x7 n came MV F G SP RF RC H ∧ ∃ lf, lf 0 = (iI (cn (fun k => decide (G k / 2 ^ lv.toNat ≠ ma G n (k - 1) / 2 ^ lv.toNat ∧ LM lv ≤ ldn G n lv (G k / 2 ^ lv.toNat))) n.toNat)).toInt64 ∧ OC D cJ o lf H) (mO x0 x1 x2 x5 x6 x7 o) 0 0 := by
  refine wr_of (cc := cL_loaded) (maxL := 4) (ret := (some .int)) (own := RL) (hh := [(0, 9, 12, 19)]) (by decide) rfl rfl (Nat.le_of_ble_eq_true rfl) ?_
  intro p e s m below meth c ls B hTab hWP hl hS
  obtain ⟨hx, hb, hml, hr, hts, hown, hlocks⟩ := B
  obtain ⟨hCP, hKJ, ⟨lf, hPo⟩, hoC, hnc1, hnc2⟩ := hWP
  have hl : lv_has ls 4 [(0, .ref x0), (1, .int (iI (lv))), (2, .ref o)] := hl
  refine lv_aload_n hx hb dL_loaded_0 rfl (lv_at hl 2 rfl) ?_
  refine pv_iconst hx hb dL_loaded_1 ?_
  refine lv_aload_n hx hb dL_loaded_2 rfl (lv_at hl 0 rfl) ?_
  refine lv_iload_n hx hb dL_loaded_3 rfl (lv_at hl 1 rfl) ?_
  refine pu_callV (v := cn (fun k => decide (G k / 2 ^ lv.toNat ≠ ma G n (k - 1) / 2 ^ lv.toNat ∧ LM lv ≤ ldn G n lv (G k / 2 ^ lv.toNat))) n.toNat) (As := [.int (iI (lv))]) (rest := [.int (iI 0), .ref o]) CP_mv ⟨hx, hb, hml, hown, hts⟩ (c_loaded l D cI cZ base st Z x0 x1 x2 x5 x6 x7 hn hG hs lv hlv) (cwV 1 hts gL_loaded_X0_loaded rfl rfl rfl (by decide +kernel) ⟨(Nat.le_of_ble_eq_true rfl), (Nat.le_of_ble_eq_true rfl)⟩) hCP (CP_rc hCP) rfl rfl hl.1 (Nat.le_of_ble_eq_true rfl) dL_loaded_4 ⟨Nat.zero_le _, Nat.zero_le _⟩ ?_
  refine lv_i2l (v := (iI (cn (fun k => decide (G k / 2 ^ lv.toNat ≠ ma G n (k - 1) / 2 ^ lv.toNat ∧ LM lv ≤ ldn G n lv (G k / 2 ^ lv.toNat))) n.toNat)).toInt64) hx hb dL_loaded_7 rfl ?_
  refine pv_last (v := (iI (cn (fun k => decide (G k / 2 ^ lv.toNat ≠ ma G n (k - 1) / 2 ^ lv.toNat ∧ LM lv ≤ ldn G n lv (G k / 2 ^ lv.toNat))) n.toNat)).toInt64) hx hb hKJ hPo hS (Or.inr rfl) dL_loaded_8 (fun H1 locs1 lf2 hv2 hPo2 hz2 hk2 hS => ?_)
  refine lv_goto (tgt := 15) hx hb dL_loaded_9 (by decide) ?_
  refine pv_iconst hx hb dL_loaded_15 ?_
  exact wr_iret hx hb hr hlocks hS dL_loaded_16 rfl ⟨CW_fr (A := fun q => q = o) hCP.2 (fun q _ h => hk2 q h) (fun q h z => hoC (by rw [← z]; exact h)), lf2, hv2, hPo2⟩
set_option maxHeartbeats 4000000 in
set_option maxRecDepth 100000 in
theorem v_loaded (l : Launch) (D : va_G) (cI cZ cJ : ClassId) (base st : Nat) (Z : Nat → Nat) (x0 x1 x2 x5 x6 x7 o : Nat) {n came MV : Int} {F G SP RF RC : Int → Int} (hfl : l.stackTraces = false) (lv : Int) (hlr : (-2147483648 ≤ lv ∧ lv ≤ 2147483647)) (hlv : ¬ (0 ≤ lv ∧ lv ≤ 8)) : wr_M l yL_loaded wsL_loaded ({ frames := 8, cells := 1, slots := 6, locals := 137 } : Room) [.ref x0, .int (iI (lv)), .ref o] (WP D cI cZ cJ base st Z x0 x1 x2 x5 x6 x7 o n came MV F G SP RF RC) 1 (fun H => CW D cI base x0 x1 x2 x5 x6 x7 n came MV F G SP RF RC H ∧ ∃ lf, OC D cJ o lf H) (mO x0 x1 x2 x5 x6 x7 o) 1 6 := by
  refine wr_of (cc := cL_loaded) (maxL := 4) (ret := (some .int)) (own := RL) (hh := [(0, 9, 12, 19)]) (by decide) rfl rfl (Nat.le_of_ble_eq_true rfl) ?_
  intro p e s m below meth c ls B hTab hWP hl hS
  obtain ⟨hx, hb, hml, hr, hts, hown, hlocks⟩ := B
  obtain ⟨hCP, hKJ, ⟨lf, hPo⟩, hoC, hnc1, hnc2⟩ := hWP
  have hl : lv_has ls 4 [(0, .ref x0), (1, .int (iI (lv))), (2, .ref o)] := hl
  refine lv_aload_n hx hb dL_loaded_0 rfl (lv_at hl 2 rfl) ?_
  refine pv_iconst hx hb dL_loaded_1 ?_
  refine lv_aload_n hx hb dL_loaded_2 rfl (lv_at hl 0 rfl) ?_
  refine lv_iload_n hx hb dL_loaded_3 rfl (lv_at hl 1 rfl) ?_
  refine th_callV (As := [.int (iI (lv))]) (rest := [.int (iI 0), .ref o]) CP_mv ⟨hx, hb, hml, hown, hts⟩ (t_loaded l D cI cZ base st Z x0 x1 x2 x5 x6 x7 hfl lv hlr hlv) (cwV 1 hts gL_loaded_X0_loaded rfl rfl rfl (by decide +kernel) ⟨(Nat.le_of_ble_eq_true rfl), (Nat.le_of_ble_eq_true rfl)⟩) hCP (CP_rc hCP) rfl rfl hl.1 (Nat.le_of_ble_eq_true rfl) dL_loaded_4 ⟨(Nat.le_of_ble_eq_true rfl), (Nat.le_of_ble_eq_true rfl)⟩ (fun H1 ce q9 h1 h2 h3 h4 h5 => ?_)
  obtain ⟨hK, hZL, hst9, hTW⟩ := id hCP.1
  obtain ⟨tw0, tw1, tw2, tw3, tw4, tw5, kw0, kw1, kw2, kd0, kd1, kd2, hU9, hN9⟩ := hTW
  refine vx_catch (own := RL) (name := "java/lang/IndexOutOfBoundsException") hown [] ⟨0, 9, 12, 19⟩ [] (hTab.trans rfl) (fun z hz => by cases hz) rfl (by decide) (hts (.classLink RL 19 "java/lang/IndexOutOfBoundsException") (by decide +kernel)) (va_Nw.use rfl kw0) h3 h4 h5 ?_
  show W p l e _ s m _ below meth c H1 [] (0 + 1) (0 + 6) _ (F0 m 12 ls [.ref q9])
  refine lv_astore_n (lv' := [(3, .ref q9), (0, .ref x0), (1, .int (iI (lv))), (2, .ref o)]) hx hb dL_loaded_12 rfl hl (by decide) rfl (fun ls hl => ?_)
  refine pv_iconst hx hb dL_loaded_13 ?_
  have hk : ∀ q : Nat, q < s.heap.size → ¬ (fun _ => False) q → H1[q]? = s.heap[q]? := fun q a _ => h2 q a
  exact wr_iret hx hb hr hlocks ⟨h1, fun q a _ => h2 q a, fun _ h => by cases h⟩ dL_loaded_14 rfl ⟨CW_fr hCP.2 hk (fun _ _ h => h), lf, OC_fr hPo hk (fun h => h)⟩
set_option maxHeartbeats 4000000 in
set_option maxRecDepth 100000 in
theorem w_spread (l : Launch) (D : va_G) (cI cZ cJ : ClassId) (base st : Nat) (Z : Nat → Nat) (x0 x1 x2 x5 x6 x7 o : Nat) {n came MV : Int} {F G SP RF RC : Int → Int} (lv : Int) (hlv : 0 ≤ lv ∧ lv ≤ 8) : wr_M l yL_spread wsL_spread ({ frames := 2, cells := 0, slots := 0, locals := 41 } : Room) [.ref x0, .int (iI (lv)), .ref o] (WP D cI cZ cJ base st Z x0 x1 x2 x5 x6 x7 o n came MV F G SP RF RC) 0 (fun H => CW D cI base x0 x1 x2 x5 x6 x7 n came MV F G SP RF RC H ∧ ∃ lf, lf 0 = (iI (SP lv)).toInt64 ∧ OC D cJ o lf H) (mO x0 x1 x2 x5 x6 x7 o) 0 0 := by
  refine wr_of (cc := cL_spread) (maxL := 4) (ret := (some .int)) (own := RL) (hh := [(0, 9, 12, 19)]) (by decide) rfl rfl (Nat.le_of_ble_eq_true rfl) ?_
  intro p e s m below meth c ls B hTab hWP hl hS
  obtain ⟨hx, hb, hml, hr, hts, hown, hlocks⟩ := B
  obtain ⟨hCP, hKJ, ⟨lf, hPo⟩, hoC, hnc1, hnc2⟩ := hWP
  have hl : lv_has ls 4 [(0, .ref x0), (1, .int (iI (lv))), (2, .ref o)] := hl
  refine lv_aload_n hx hb dL_spread_0 rfl (lv_at hl 2 rfl) ?_
  refine pv_iconst hx hb dL_spread_1 ?_
  refine lv_aload_n hx hb dL_spread_2 rfl (lv_at hl 0 rfl) ?_
  refine lv_iload_n hx hb dL_spread_3 rfl (lv_at hl 1 rfl) ?_
  refine pu_callV (v := SP lv) (As := [.int (iI (lv))]) (rest := [.int (iI 0), .ref o]) CP_mv ⟨hx, hb, hml, hown, hts⟩ (c_spread l D cI cZ base st Z x0 x1 x2 x5 x6 x7 lv hlv) (cwV 1 hts gL_spread_X0_spread rfl rfl rfl (by decide +kernel) ⟨(Nat.le_of_ble_eq_true rfl), (Nat.le_of_ble_eq_true rfl)⟩) hCP (CP_rc hCP) rfl rfl hl.1 (Nat.le_of_ble_eq_true rfl) dL_spread_4 ⟨Nat.zero_le _, Nat.zero_le _⟩ ?_
  refine lv_i2l (v := (iI (SP lv)).toInt64) hx hb dL_spread_7 rfl ?_
  refine pv_last (v := (iI (SP lv)).toInt64) hx hb hKJ hPo hS (Or.inr rfl) dL_spread_8 (fun H1 locs1 lf2 hv2 hPo2 hz2 hk2 hS => ?_)
  refine lv_goto (tgt := 15) hx hb dL_spread_9 (by decide) ?_
  refine pv_iconst hx hb dL_spread_15 ?_
  exact wr_iret hx hb hr hlocks hS dL_spread_16 rfl ⟨CW_fr (A := fun q => q = o) hCP.2 (fun q _ h => hk2 q h) (fun q h z => hoC (by rw [← z]; exact h)), lf2, hv2, hPo2⟩
set_option maxHeartbeats 4000000 in
set_option maxRecDepth 100000 in
theorem v_spread (l : Launch) (D : va_G) (cI cZ cJ : ClassId) (base st : Nat) (Z : Nat → Nat) (x0 x1 x2 x5 x6 x7 o : Nat) {n came MV : Int} {F G SP RF RC : Int → Int} (hfl : l.stackTraces = false) (lv : Int) (hlr : (-2147483648 ≤ lv ∧ lv ≤ 2147483647)) (hlv : ¬ (0 ≤ lv ∧ lv ≤ 8)) : wr_M l yL_spread wsL_spread ({ frames := 8, cells := 1, slots := 6, locals := 133 } : Room) [.ref x0, .int (iI (lv)), .ref o] (WP D cI cZ cJ base st Z x0 x1 x2 x5 x6 x7 o n came MV F G SP RF RC) 1 (fun H => CW D cI base x0 x1 x2 x5 x6 x7 n came MV F G SP RF RC H ∧ ∃ lf, OC D cJ o lf H) (mO x0 x1 x2 x5 x6 x7 o) 1 6 := by
  refine wr_of (cc := cL_spread) (maxL := 4) (ret := (some .int)) (own := RL) (hh := [(0, 9, 12, 19)]) (by decide) rfl rfl (Nat.le_of_ble_eq_true rfl) ?_
  intro p e s m below meth c ls B hTab hWP hl hS
  obtain ⟨hx, hb, hml, hr, hts, hown, hlocks⟩ := B
  obtain ⟨hCP, hKJ, ⟨lf, hPo⟩, hoC, hnc1, hnc2⟩ := hWP
  have hl : lv_has ls 4 [(0, .ref x0), (1, .int (iI (lv))), (2, .ref o)] := hl
  refine lv_aload_n hx hb dL_spread_0 rfl (lv_at hl 2 rfl) ?_
  refine pv_iconst hx hb dL_spread_1 ?_
  refine lv_aload_n hx hb dL_spread_2 rfl (lv_at hl 0 rfl) ?_
  refine lv_iload_n hx hb dL_spread_3 rfl (lv_at hl 1 rfl) ?_
  refine th_callV (As := [.int (iI (lv))]) (rest := [.int (iI 0), .ref o]) CP_mv ⟨hx, hb, hml, hown, hts⟩ (t_spread l D cI cZ base st Z x0 x1 x2 x5 x6 x7 hfl lv hlr hlv) (cwV 1 hts gL_spread_X0_spread rfl rfl rfl (by decide +kernel) ⟨(Nat.le_of_ble_eq_true rfl), (Nat.le_of_ble_eq_true rfl)⟩) hCP (CP_rc hCP) rfl rfl hl.1 (Nat.le_of_ble_eq_true rfl) dL_spread_4 ⟨(Nat.le_of_ble_eq_true rfl), (Nat.le_of_ble_eq_true rfl)⟩ (fun H1 ce q9 h1 h2 h3 h4 h5 => ?_)
  obtain ⟨hK, hZL, hst9, hTW⟩ := id hCP.1
  obtain ⟨tw0, tw1, tw2, tw3, tw4, tw5, kw0, kw1, kw2, kd0, kd1, kd2, hU9, hN9⟩ := hTW
  refine vx_catch (own := RL) (name := "java/lang/IndexOutOfBoundsException") hown [] ⟨0, 9, 12, 19⟩ [] (hTab.trans rfl) (fun z hz => by cases hz) rfl (by decide) (hts (.classLink RL 19 "java/lang/IndexOutOfBoundsException") (by decide +kernel)) (va_Nw.use rfl kw0) h3 h4 h5 ?_
  show W p l e _ s m _ below meth c H1 [] (0 + 1) (0 + 6) _ (F0 m 12 ls [.ref q9])
  refine lv_astore_n (lv' := [(3, .ref q9), (0, .ref x0), (1, .int (iI (lv))), (2, .ref o)]) hx hb dL_spread_12 rfl hl (by decide) rfl (fun ls hl => ?_)
  refine pv_iconst hx hb dL_spread_13 ?_
  have hk : ∀ q : Nat, q < s.heap.size → ¬ (fun _ => False) q → H1[q]? = s.heap[q]? := fun q a _ => h2 q a
  exact wr_iret hx hb hr hlocks ⟨h1, fun q a _ => h2 q a, fun _ h => by cases h⟩ dL_spread_14 rfl ⟨CW_fr hCP.2 hk (fun _ _ h => h), lf, OC_fr hPo hk (fun h => h)⟩
set_option maxHeartbeats 4000000 in
set_option maxRecDepth 100000 in
theorem w_at (l : Launch) (D : va_G) (cI cZ cJ : ClassId) (base st : Nat) (Z : Nat → Nat) (x0 x1 x2 x5 x6 x7 o : Nat) {n came MV : Int} {F G SP RF RC : Int → Int} (lv : Int) (hlv : 0 ≤ lv ∧ lv < 4) : wr_M l yL_at wsL_at ({ frames := 2, cells := 0, slots := 0, locals := 41 } : Room) [.ref x0, .int (iI (lv)), .ref o] (WP D cI cZ cJ base st Z x0 x1 x2 x5 x6 x7 o n came MV F G SP RF RC) 0 (fun H => CW D cI base x0 x1 x2 x5 x6 x7 n came MV F G SP RF RC H ∧ ∃ lf, lf 0 = (iI (RF lv)).toInt64 ∧ OC D cJ o lf H) (mO x0 x1 x2 x5 x6 x7 o) 0 0 := by
  refine wr_of (cc := cL_at) (maxL := 4) (ret := (some .int)) (own := RL) (hh := [(0, 9, 12, 19)]) (by decide) rfl rfl (Nat.le_of_ble_eq_true rfl) ?_
  intro p e s m below meth c ls B hTab hWP hl hS
  obtain ⟨hx, hb, hml, hr, hts, hown, hlocks⟩ := B
  obtain ⟨hCP, hKJ, ⟨lf, hPo⟩, hoC, hnc1, hnc2⟩ := hWP
  have hl : lv_has ls 4 [(0, .ref x0), (1, .int (iI (lv))), (2, .ref o)] := hl
  refine lv_aload_n hx hb dL_at_0 rfl (lv_at hl 2 rfl) ?_
  refine pv_iconst hx hb dL_at_1 ?_
  refine lv_aload_n hx hb dL_at_2 rfl (lv_at hl 0 rfl) ?_
  refine lv_iload_n hx hb dL_at_3 rfl (lv_at hl 1 rfl) ?_
  refine pu_callV (v := RF lv) (As := [.int (iI (lv))]) (rest := [.int (iI 0), .ref o]) CP_mv ⟨hx, hb, hml, hown, hts⟩ (c_at l D cI cZ base st Z x0 x1 x2 x5 x6 x7 lv hlv) (cwV 1 hts gL_at_X0_at rfl rfl rfl (by decide +kernel) ⟨(Nat.le_of_ble_eq_true rfl), (Nat.le_of_ble_eq_true rfl)⟩) hCP (CP_rc hCP) rfl rfl hl.1 (Nat.le_of_ble_eq_true rfl) dL_at_4 ⟨Nat.zero_le _, Nat.zero_le _⟩ ?_
  refine lv_i2l (v := (iI (RF lv)).toInt64) hx hb dL_at_7 rfl ?_
  refine pv_last (v := (iI (RF lv)).toInt64) hx hb hKJ hPo hS (Or.inr rfl) dL_at_8 (fun H1 locs1 lf2 hv2 hPo2 hz2 hk2 hS => ?_)
  refine lv_goto (tgt := 15) hx hb dL_at_9 (by decide) ?_
  refine pv_iconst hx hb dL_at_15 ?_
  exact wr_iret hx hb hr hlocks hS dL_at_16 rfl ⟨CW_fr (A := fun q => q = o) hCP.2 (fun q _ h => hk2 q h) (fun q h z => hoC (by rw [← z]; exact h)), lf2, hv2, hPo2⟩
set_option maxHeartbeats 4000000 in
set_option maxRecDepth 100000 in
theorem v_at (l : Launch) (D : va_G) (cI cZ cJ : ClassId) (base st : Nat) (Z : Nat → Nat) (x0 x1 x2 x5 x6 x7 o : Nat) {n came MV : Int} {F G SP RF RC : Int → Int} (hfl : l.stackTraces = false) (lv : Int) (hlr : (-2147483648 ≤ lv ∧ lv ≤ 2147483647)) (hlv : ¬ (0 ≤ lv ∧ lv < 4)) : wr_M l yL_at wsL_at ({ frames := 8, cells := 1, slots := 6, locals := 133 } : Room) [.ref x0, .int (iI (lv)), .ref o] (WP D cI cZ cJ base st Z x0 x1 x2 x5 x6 x7 o n came MV F G SP RF RC) 1 (fun H => CW D cI base x0 x1 x2 x5 x6 x7 n came MV F G SP RF RC H ∧ ∃ lf, OC D cJ o lf H) (mO x0 x1 x2 x5 x6 x7 o) 1 6 := by
  refine wr_of (cc := cL_at) (maxL := 4) (ret := (some .int)) (own := RL) (hh := [(0, 9, 12, 19)]) (by decide) rfl rfl (Nat.le_of_ble_eq_true rfl) ?_
  intro p e s m below meth c ls B hTab hWP hl hS
  obtain ⟨hx, hb, hml, hr, hts, hown, hlocks⟩ := B
  obtain ⟨hCP, hKJ, ⟨lf, hPo⟩, hoC, hnc1, hnc2⟩ := hWP
  have hl : lv_has ls 4 [(0, .ref x0), (1, .int (iI (lv))), (2, .ref o)] := hl
  refine lv_aload_n hx hb dL_at_0 rfl (lv_at hl 2 rfl) ?_
  refine pv_iconst hx hb dL_at_1 ?_
  refine lv_aload_n hx hb dL_at_2 rfl (lv_at hl 0 rfl) ?_
  refine lv_iload_n hx hb dL_at_3 rfl (lv_at hl 1 rfl) ?_
  refine th_callV (As := [.int (iI (lv))]) (rest := [.int (iI 0), .ref o]) CP_mv ⟨hx, hb, hml, hown, hts⟩ (t_at l D cI cZ base st Z x0 x1 x2 x5 x6 x7 hfl lv hlr hlv) (cwV 1 hts gL_at_X0_at rfl rfl rfl (by decide +kernel) ⟨(Nat.le_of_ble_eq_true rfl), (Nat.le_of_ble_eq_true rfl)⟩) hCP (CP_rc hCP) rfl rfl hl.1 (Nat.le_of_ble_eq_true rfl) dL_at_4 ⟨(Nat.le_of_ble_eq_true rfl), (Nat.le_of_ble_eq_true rfl)⟩ (fun H1 ce q9 h1 h2 h3 h4 h5 => ?_)
  obtain ⟨hK, hZL, hst9, hTW⟩ := id hCP.1
  obtain ⟨tw0, tw1, tw2, tw3, tw4, tw5, kw0, kw1, kw2, kd0, kd1, kd2, hU9, hN9⟩ := hTW
  refine vx_catch (own := RL) (name := "java/lang/IndexOutOfBoundsException") hown [] ⟨0, 9, 12, 19⟩ [] (hTab.trans rfl) (fun z hz => by cases hz) rfl (by decide) (hts (.classLink RL 19 "java/lang/IndexOutOfBoundsException") (by decide +kernel)) (va_Nw.use rfl kw0) h3 h4 h5 ?_
  show W p l e _ s m _ below meth c H1 [] (0 + 1) (0 + 6) _ (F0 m 12 ls [.ref q9])
  refine lv_astore_n (lv' := [(3, .ref q9), (0, .ref x0), (1, .int (iI (lv))), (2, .ref o)]) hx hb dL_at_12 rfl hl (by decide) rfl (fun ls hl => ?_)
  refine pv_iconst hx hb dL_at_13 ?_
  have hk : ∀ q : Nat, q < s.heap.size → ¬ (fun _ => False) q → H1[q]? = s.heap[q]? := fun q a _ => h2 q a
  exact wr_iret hx hb hr hlocks ⟨h1, fun q a _ => h2 q a, fun _ h => by cases h⟩ dL_at_14 rfl ⟨CW_fr hCP.2 hk (fun _ _ h => h), lf, OC_fr hPo hk (fun h => h)⟩
set_option maxHeartbeats 4000000 in
set_option maxRecDepth 100000 in
theorem w_read (l : Launch) (D : va_G) (cI cZ cJ : ClassId) (base st : Nat) (Z : Nat → Nat) (x0 x1 x2 x5 x6 x7 o : Nat) {n came MV : Int} {F G SP RF RC : Int → Int} (lv : Int) (hlv : 0 ≤ lv ∧ lv < 4) : wr_M l yL_read wsL_read ({ frames := 2, cells := 0, slots := 0, locals := 41 } : Room) [.ref x0, .int (iI (lv)), .ref o] (WP D cI cZ cJ base st Z x0 x1 x2 x5 x6 x7 o n came MV F G SP RF RC) 0 (fun H => CW D cI base x0 x1 x2 x5 x6 x7 n came MV F G SP RF RC H ∧ ∃ lf, lf 0 = (iI (RC lv)).toInt64 ∧ OC D cJ o lf H) (mO x0 x1 x2 x5 x6 x7 o) 0 0 := by
  refine wr_of (cc := cL_read) (maxL := 4) (ret := (some .int)) (own := RL) (hh := [(0, 9, 12, 19)]) (by decide) rfl rfl (Nat.le_of_ble_eq_true rfl) ?_
  intro p e s m below meth c ls B hTab hWP hl hS
  obtain ⟨hx, hb, hml, hr, hts, hown, hlocks⟩ := B
  obtain ⟨hCP, hKJ, ⟨lf, hPo⟩, hoC, hnc1, hnc2⟩ := hWP
  have hl : lv_has ls 4 [(0, .ref x0), (1, .int (iI (lv))), (2, .ref o)] := hl
  refine lv_aload_n hx hb dL_read_0 rfl (lv_at hl 2 rfl) ?_
  refine pv_iconst hx hb dL_read_1 ?_
  refine lv_aload_n hx hb dL_read_2 rfl (lv_at hl 0 rfl) ?_
  refine lv_iload_n hx hb dL_read_3 rfl (lv_at hl 1 rfl) ?_
  refine pu_callV (v := RC lv) (As := [.int (iI (lv))]) (rest := [.int (iI 0), .ref o]) CP_mv ⟨hx, hb, hml, hown, hts⟩ (c_read l D cI cZ base st Z x0 x1 x2 x5 x6 x7 lv hlv) (cwV 1 hts gL_read_X0_read rfl rfl rfl (by decide +kernel) ⟨(Nat.le_of_ble_eq_true rfl), (Nat.le_of_ble_eq_true rfl)⟩) hCP (CP_rc hCP) rfl rfl hl.1 (Nat.le_of_ble_eq_true rfl) dL_read_4 ⟨Nat.zero_le _, Nat.zero_le _⟩ ?_
  refine lv_i2l (v := (iI (RC lv)).toInt64) hx hb dL_read_7 rfl ?_
  refine pv_last (v := (iI (RC lv)).toInt64) hx hb hKJ hPo hS (Or.inr rfl) dL_read_8 (fun H1 locs1 lf2 hv2 hPo2 hz2 hk2 hS => ?_)
  refine lv_goto (tgt := 15) hx hb dL_read_9 (by decide) ?_
  refine pv_iconst hx hb dL_read_15 ?_
  exact wr_iret hx hb hr hlocks hS dL_read_16 rfl ⟨CW_fr (A := fun q => q = o) hCP.2 (fun q _ h => hk2 q h) (fun q h z => hoC (by rw [← z]; exact h)), lf2, hv2, hPo2⟩
set_option maxHeartbeats 4000000 in
set_option maxRecDepth 100000 in
theorem v_read (l : Launch) (D : va_G) (cI cZ cJ : ClassId) (base st : Nat) (Z : Nat → Nat) (x0 x1 x2 x5 x6 x7 o : Nat) {n came MV : Int} {F G SP RF RC : Int → Int} (hfl : l.stackTraces = false) (lv : Int) (hlr : (-2147483648 ≤ lv ∧ lv ≤ 2147483647)) (hlv : ¬ (0 ≤ lv ∧ lv < 4)) : wr_M l yL_read wsL_read ({ frames := 8, cells := 1, slots := 6, locals := 133 } : Room) [.ref x0, .int (iI (lv)), .ref o] (WP D cI cZ cJ base st Z x0 x1 x2 x5 x6 x7 o n came MV F G SP RF RC) 1 (fun H => CW D cI base x0 x1 x2 x5 x6 x7 n came MV F G SP RF RC H ∧ ∃ lf, OC D cJ o lf H) (mO x0 x1 x2 x5 x6 x7 o) 1 6 := by
  refine wr_of (cc := cL_read) (maxL := 4) (ret := (some .int)) (own := RL) (hh := [(0, 9, 12, 19)]) (by decide) rfl rfl (Nat.le_of_ble_eq_true rfl) ?_
  intro p e s m below meth c ls B hTab hWP hl hS
  obtain ⟨hx, hb, hml, hr, hts, hown, hlocks⟩ := B
  obtain ⟨hCP, hKJ, ⟨lf, hPo⟩, hoC, hnc1, hnc2⟩ := hWP
  have hl : lv_has ls 4 [(0, .ref x0), (1, .int (iI (lv))), (2, .ref o)] := hl
  refine lv_aload_n hx hb dL_read_0 rfl (lv_at hl 2 rfl) ?_
  refine pv_iconst hx hb dL_read_1 ?_
  refine lv_aload_n hx hb dL_read_2 rfl (lv_at hl 0 rfl) ?_
  refine lv_iload_n hx hb dL_read_3 rfl (lv_at hl 1 rfl) ?_
  refine th_callV (As := [.int (iI (lv))]) (rest := [.int (iI 0), .ref o]) CP_mv ⟨hx, hb, hml, hown, hts⟩ (t_read l D cI cZ base st Z x0 x1 x2 x5 x6 x7 hfl lv hlr hlv) (cwV 1 hts gL_read_X0_read rfl rfl rfl (by decide +kernel) ⟨(Nat.le_of_ble_eq_true rfl), (Nat.le_of_ble_eq_true rfl)⟩) hCP (CP_rc hCP) rfl rfl hl.1 (Nat.le_of_ble_eq_true rfl) dL_read_4 ⟨(Nat.le_of_ble_eq_true rfl), (Nat.le_of_ble_eq_true rfl)⟩ (fun H1 ce q9 h1 h2 h3 h4 h5 => ?_)
  obtain ⟨hK, hZL, hst9, hTW⟩ := id hCP.1
  obtain ⟨tw0, tw1, tw2, tw3, tw4, tw5, kw0, kw1, kw2, kd0, kd1, kd2, hU9, hN9⟩ := hTW
  refine vx_catch (own := RL) (name := "java/lang/IndexOutOfBoundsException") hown [] ⟨0, 9, 12, 19⟩ [] (hTab.trans rfl) (fun z hz => by cases hz) rfl (by decide) (hts (.classLink RL 19 "java/lang/IndexOutOfBoundsException") (by decide +kernel)) (va_Nw.use rfl kw0) h3 h4 h5 ?_
  show W p l e _ s m _ below meth c H1 [] (0 + 1) (0 + 6) _ (F0 m 12 ls [.ref q9])
  refine lv_astore_n (lv' := [(3, .ref q9), (0, .ref x0), (1, .int (iI (lv))), (2, .ref o)]) hx hb dL_read_12 rfl hl (by decide) rfl (fun ls hl => ?_)
  refine pv_iconst hx hb dL_read_13 ?_
  have hk : ∀ q : Nat, q < s.heap.size → ¬ (fun _ => False) q → H1[q]? = s.heap[q]? := fun q a _ => h2 q a
  exact wr_iret hx hb hr hlocks ⟨h1, fun q a _ => h2 q a, fun _ h => by cases h⟩ dL_read_14 rfl ⟨CW_fr hCP.2 hk (fun _ _ h => h), lf, OC_fr hPo hk (fun h => h)⟩
set_option maxHeartbeats 4000000 in
set_option maxRecDepth 100000 in
theorem w_load (l : Launch) (D : va_G) (cI cZ cJ : ClassId) (base st : Nat) (Z : Nat → Nat) (x0 x1 x2 x5 x6 x7 o : Nat) {n came MV : Int} {F G SP RF RC : Int → Int} (hn : 0 ≤ n ∧ n ≤ 60) (hG : ∀ k : Int, 0 ≤ k → k < n → 0 ≤ G k ∧ G k ≤ 255) (hs : SD G n) (lv : Int) (hlv : 0 ≤ lv ∧ lv ≤ 8) (sh : Int) (hsr : (-2147483648 ≤ sh ∧ sh ≤ 2147483647)) (hsh : 0 ≤ sh ∧ sh < 256 / 2 ^ lv.toNat) : wr_M l yL_load wsL_load ({ frames := 3, cells := 0, slots := 0, locals := 66 } : Room) [.ref x0, .int (iI (lv)), .int (iI (sh)), .ref o] (WP D cI cZ cJ base st Z x0 x1 x2 x5 x6 x7 o n came MV F G SP RF RC) 0 (fun H => CW D cI base x0 x1 x2 x5 x6 x7 n came MV F G SP RF RC H ∧ ∃ lf, lf 0 = (iI (ldn G n lv sh)).toInt64 ∧ OC D cJ o lf H) (mO x0 x1 x2 x5 x6 x7 o) 0 0 := by
  refine wr_of (cc := cL_load) (maxL := 5) (ret := (some .int)) (own := RL) (hh := [(0, 10, 13, 19)]) (by decide) rfl rfl (Nat.le_of_ble_eq_true rfl) ?_
  intro p e s m below meth c ls B hTab hWP hl hS
  obtain ⟨hx, hb, hml, hr, hts, hown, hlocks⟩ := B
  obtain ⟨hCP, hKJ, ⟨lf, hPo⟩, hoC, hnc1, hnc2⟩ := hWP
  have hl : lv_has ls 5 [(0, .ref x0), (1, .int (iI (lv))), (2, .int (iI (sh))), (3, .ref o)] := hl
  refine lv_aload_n hx hb dL_load_0 rfl (lv_at hl 3 rfl) ?_
  refine pv_iconst hx hb dL_load_1 ?_
  refine lv_aload_n hx hb dL_load_2 rfl (lv_at hl 0 rfl) ?_
  refine lv_iload_n hx hb dL_load_3 rfl (lv_at hl 1 rfl) ?_
  refine lv_iload_n hx hb dL_load_4 rfl (lv_at hl 2 rfl) ?_
  refine pu_callV (v := ldn G n lv sh) (As := [.int (iI (lv)), .int (iI (sh))]) (rest := [.int (iI 0), .ref o]) CP_mv ⟨hx, hb, hml, hown, hts⟩ (c_load l D cI cZ base st Z x0 x1 x2 x5 x6 x7 hn hG hs lv hlv sh hsr hsh) (cwV 2 hts gL_load_X0_load rfl rfl rfl (by decide +kernel) ⟨(Nat.le_of_ble_eq_true rfl), (Nat.le_of_ble_eq_true rfl)⟩) hCP (CP_rc hCP) rfl rfl hl.1 (Nat.le_of_ble_eq_true rfl) dL_load_5 ⟨Nat.zero_le _, Nat.zero_le _⟩ ?_
  refine lv_i2l (v := (iI (ldn G n lv sh)).toInt64) hx hb dL_load_8 rfl ?_
  refine pv_last (v := (iI (ldn G n lv sh)).toInt64) hx hb hKJ hPo hS (Or.inr rfl) dL_load_9 (fun H1 locs1 lf2 hv2 hPo2 hz2 hk2 hS => ?_)
  refine lv_goto (tgt := 17) hx hb dL_load_10 (by decide) ?_
  refine pv_iconst hx hb dL_load_17 ?_
  exact wr_iret hx hb hr hlocks hS dL_load_18 rfl ⟨CW_fr (A := fun q => q = o) hCP.2 (fun q _ h => hk2 q h) (fun q h z => hoC (by rw [← z]; exact h)), lf2, hv2, hPo2⟩
set_option maxHeartbeats 4000000 in
set_option maxRecDepth 100000 in
theorem v_load (l : Launch) (D : va_G) (cI cZ cJ : ClassId) (base st : Nat) (Z : Nat → Nat) (x0 x1 x2 x5 x6 x7 o : Nat) {n came MV : Int} {F G SP RF RC : Int → Int} (hfl : l.stackTraces = false) (lv : Int) (hlr : (-2147483648 ≤ lv ∧ lv ≤ 2147483647)) (hlv : ¬ (0 ≤ lv ∧ lv ≤ 8)) (sh : Int) : wr_M l yL_load wsL_load ({ frames := 8, cells := 1, slots := 6, locals := 134 } : Room) [.ref x0, .int (iI (lv)), .int (iI (sh)), .ref o] (WP D cI cZ cJ base st Z x0 x1 x2 x5 x6 x7 o n came MV F G SP RF RC) 1 (fun H => CW D cI base x0 x1 x2 x5 x6 x7 n came MV F G SP RF RC H ∧ ∃ lf, OC D cJ o lf H) (mO x0 x1 x2 x5 x6 x7 o) 1 6 := by
  refine wr_of (cc := cL_load) (maxL := 5) (ret := (some .int)) (own := RL) (hh := [(0, 10, 13, 19)]) (by decide) rfl rfl (Nat.le_of_ble_eq_true rfl) ?_
  intro p e s m below meth c ls B hTab hWP hl hS
  obtain ⟨hx, hb, hml, hr, hts, hown, hlocks⟩ := B
  obtain ⟨hCP, hKJ, ⟨lf, hPo⟩, hoC, hnc1, hnc2⟩ := hWP
  have hl : lv_has ls 5 [(0, .ref x0), (1, .int (iI (lv))), (2, .int (iI (sh))), (3, .ref o)] := hl
  refine lv_aload_n hx hb dL_load_0 rfl (lv_at hl 3 rfl) ?_
  refine pv_iconst hx hb dL_load_1 ?_
  refine lv_aload_n hx hb dL_load_2 rfl (lv_at hl 0 rfl) ?_
  refine lv_iload_n hx hb dL_load_3 rfl (lv_at hl 1 rfl) ?_
  refine lv_iload_n hx hb dL_load_4 rfl (lv_at hl 2 rfl) ?_
  refine th_callV (As := [.int (iI (lv)), .int (iI (sh))]) (rest := [.int (iI 0), .ref o]) CP_mv ⟨hx, hb, hml, hown, hts⟩ (t_load l D cI cZ base st Z x0 x1 x2 x5 x6 x7 hfl lv hlr hlv sh) (cwV 2 hts gL_load_X0_load rfl rfl rfl (by decide +kernel) ⟨(Nat.le_of_ble_eq_true rfl), (Nat.le_of_ble_eq_true rfl)⟩) hCP (CP_rc hCP) rfl rfl hl.1 (Nat.le_of_ble_eq_true rfl) dL_load_5 ⟨(Nat.le_of_ble_eq_true rfl), (Nat.le_of_ble_eq_true rfl)⟩ (fun H1 ce q9 h1 h2 h3 h4 h5 => ?_)
  obtain ⟨hK, hZL, hst9, hTW⟩ := id hCP.1
  obtain ⟨tw0, tw1, tw2, tw3, tw4, tw5, kw0, kw1, kw2, kd0, kd1, kd2, hU9, hN9⟩ := hTW
  refine vx_catch (own := RL) (name := "java/lang/IndexOutOfBoundsException") hown [] ⟨0, 10, 13, 19⟩ [] (hTab.trans rfl) (fun z hz => by cases hz) rfl (by decide) (hts (.classLink RL 19 "java/lang/IndexOutOfBoundsException") (by decide +kernel)) (va_Nw.use rfl kw0) h3 h4 h5 ?_
  show W p l e _ s m _ below meth c H1 [] (0 + 1) (0 + 6) _ (F0 m 13 ls [.ref q9])
  refine lv_astore (lv' := [(4, .ref q9), (0, .ref x0), (1, .int (iI (lv))), (2, .int (iI (sh))), (3, .ref o)]) hx hb dL_load_13 hl (by decide) rfl (fun ls hl => ?_)
  refine pv_iconst hx hb dL_load_15 ?_
  have hk : ∀ q : Nat, q < s.heap.size → ¬ (fun _ => False) q → H1[q]? = s.heap[q]? := fun q a _ => h2 q a
  exact wr_iret hx hb hr hlocks ⟨h1, fun q a _ => h2 q a, fun _ h => by cases h⟩ dL_load_16 rfl ⟨CW_fr hCP.2 hk (fun _ _ h => h), lf, OC_fr hPo hk (fun h => h)⟩
set_option maxHeartbeats 4000000 in
set_option maxRecDepth 100000 in
theorem v_load2 (l : Launch) (D : va_G) (cI cZ cJ : ClassId) (base st : Nat) (Z : Nat → Nat) (x0 x1 x2 x5 x6 x7 o : Nat) {n came MV : Int} {F G SP RF RC : Int → Int} (hfl : l.stackTraces = false) (lv : Int) (hlv : 0 ≤ lv ∧ lv ≤ 8) (sh : Int) (hsr : (-2147483648 ≤ sh ∧ sh ≤ 2147483647)) (hsh : ¬ (0 ≤ sh ∧ sh < 256 / 2 ^ lv.toNat)) : wr_M l yL_load wsL_load ({ frames := 7, cells := 1, slots := 6, locals := 114 } : Room) [.ref x0, .int (iI (lv)), .int (iI (sh)), .ref o] (WP D cI cZ cJ base st Z x0 x1 x2 x5 x6 x7 o n came MV F G SP RF RC) 1 (fun H => CW D cI base x0 x1 x2 x5 x6 x7 n came MV F G SP RF RC H ∧ ∃ lf, OC D cJ o lf H) (mO x0 x1 x2 x5 x6 x7 o) 1 6 := by
  refine wr_of (cc := cL_load) (maxL := 5) (ret := (some .int)) (own := RL) (hh := [(0, 10, 13, 19)]) (by decide) rfl rfl (Nat.le_of_ble_eq_true rfl) ?_
  intro p e s m below meth c ls B hTab hWP hl hS
  obtain ⟨hx, hb, hml, hr, hts, hown, hlocks⟩ := B
  obtain ⟨hCP, hKJ, ⟨lf, hPo⟩, hoC, hnc1, hnc2⟩ := hWP
  have hl : lv_has ls 5 [(0, .ref x0), (1, .int (iI (lv))), (2, .int (iI (sh))), (3, .ref o)] := hl
  refine lv_aload_n hx hb dL_load_0 rfl (lv_at hl 3 rfl) ?_
  refine pv_iconst hx hb dL_load_1 ?_
  refine lv_aload_n hx hb dL_load_2 rfl (lv_at hl 0 rfl) ?_
  refine lv_iload_n hx hb dL_load_3 rfl (lv_at hl 1 rfl) ?_
  refine lv_iload_n hx hb dL_load_4 rfl (lv_at hl 2 rfl) ?_
  refine th_callV (As := [.int (iI (lv)), .int (iI (sh))]) (rest := [.int (iI 0), .ref o]) CP_mv ⟨hx, hb, hml, hown, hts⟩ (t_load2 l D cI cZ base st Z x0 x1 x2 x5 x6 x7 hfl lv hlv sh hsr hsh) (cwV 2 hts gL_load_X0_load rfl rfl rfl (by decide +kernel) ⟨(Nat.le_of_ble_eq_true rfl), (Nat.le_of_ble_eq_true rfl)⟩) hCP (CP_rc hCP) rfl rfl hl.1 (Nat.le_of_ble_eq_true rfl) dL_load_5 ⟨(Nat.le_of_ble_eq_true rfl), (Nat.le_of_ble_eq_true rfl)⟩ (fun H1 ce q9 h1 h2 h3 h4 h5 => ?_)
  obtain ⟨hK, hZL, hst9, hTW⟩ := id hCP.1
  obtain ⟨tw0, tw1, tw2, tw3, tw4, tw5, kw0, kw1, kw2, kd0, kd1, kd2, hU9, hN9⟩ := hTW
  refine vx_catch (own := RL) (name := "java/lang/IndexOutOfBoundsException") hown [] ⟨0, 10, 13, 19⟩ [] (hTab.trans rfl) (fun z hz => by cases hz) rfl (by decide) (hts (.classLink RL 19 "java/lang/IndexOutOfBoundsException") (by decide +kernel)) (va_Nw.use rfl kw0) h3 h4 h5 ?_
  show W p l e _ s m _ below meth c H1 [] (0 + 1) (0 + 6) _ (F0 m 13 ls [.ref q9])
  refine lv_astore (lv' := [(4, .ref q9), (0, .ref x0), (1, .int (iI (lv))), (2, .int (iI (sh))), (3, .ref o)]) hx hb dL_load_13 hl (by decide) rfl (fun ls hl => ?_)
  refine pv_iconst hx hb dL_load_15 ?_
  have hk : ∀ q : Nat, q < s.heap.size → ¬ (fun _ => False) q → H1[q]? = s.heap[q]? := fun q a _ => h2 q a
  exact wr_iret hx hb hr hlocks ⟨h1, fun q a _ => h2 q a, fun _ h => by cases h⟩ dL_load_16 rfl ⟨CW_fr hCP.2 hk (fun _ _ h => h), lf, OC_fr hPo hk (fun h => h)⟩
set_option maxHeartbeats 4000000 in
set_option maxRecDepth 100000 in
theorem w_would_free (l : Launch) (D : va_G) (cI cZ cJ : ClassId) (base st : Nat) (Z : Nat → Nat) (x0 x1 x2 x5 x6 x7 o : Nat) {n came MV : Int} {F G SP RF RC : Int → Int} (hn : 0 ≤ n ∧ n ≤ 60) (hF : ∀ k : Int, 0 ≤ k → k < n → 0 ≤ F k ∧ F k < 200) (x : Int) (hxr : (-2147483648 ≤ x ∧ x ≤ 2147483647)) (rp : Int) (hrp : PL F n x rp) (h0 : 0 ≤ rp) (hG : ∀ k : Int, 0 ≤ k → k < n → 0 ≤ G k ∧ G k ≤ 255) (hfree : 2 ≤ ma G n (rp + 1) - ma G n (rp + 1 - 1)) : wr_M l yL_wouldMove wsL_wouldMove ({ frames := 5, cells := 0, slots := 0, locals := 112 } : Room) [.ref x0, .int (iI (x)), .ref o] (WP D cI cZ cJ base st Z x0 x1 x2 x5 x6 x7 o n came MV F G SP RF RC) 0 (fun H => CW D cI base x0 x1 x2 x5 x6 x7 n came MV F G SP RF RC H ∧ ∃ lf, lf 0 = (iI (0)).toInt64 ∧ OC D cJ o lf H) (mO x0 x1 x2 x5 x6 x7 o) 0 0 := by
  refine wr_of (cc := cL_wouldMove) (maxL := 4) (ret := (some .int)) (own := RL) (hh := [(0, 9, 12, 19)]) (by decide) rfl rfl (Nat.le_of_ble_eq_true rfl) ?_
  intro p e s m below meth c ls B hTab hWP hl hS
  obtain ⟨hx, hb, hml, hr, hts, hown, hlocks⟩ := B
  obtain ⟨hCP, hKJ, ⟨lf, hPo⟩, hoC, hnc1, hnc2⟩ := hWP
  have hl : lv_has ls 4 [(0, .ref x0), (1, .int (iI (x))), (2, .ref o)] := hl
  refine lv_aload_n hx hb dL_wouldMove_0 rfl (lv_at hl 2 rfl) ?_
  refine pv_iconst hx hb dL_wouldMove_1 ?_
  refine lv_aload_n hx hb dL_wouldMove_2 rfl (lv_at hl 0 rfl) ?_
  refine lv_iload_n hx hb dL_wouldMove_3 rfl (lv_at hl 1 rfl) ?_
  refine pu_callV (v := 0) (As := [.int (iI (x))]) (rest := [.int (iI 0), .ref o]) CP_mv ⟨hx, hb, hml, hown, hts⟩ (c_would_free l D cI cZ base st Z x0 x1 x2 x5 x6 x7 hn hF x hxr rp hrp h0 hG hfree) (cwV 1 hts gL_wouldMove_X0_wouldMove rfl rfl rfl (by decide +kernel) ⟨(Nat.le_of_ble_eq_true rfl), (Nat.le_of_ble_eq_true rfl)⟩) hCP (CP_rc hCP) rfl rfl hl.1 (Nat.le_of_ble_eq_true rfl) dL_wouldMove_4 ⟨Nat.zero_le _, Nat.zero_le _⟩ ?_
  refine lv_i2l (v := (iI (0)).toInt64) hx hb dL_wouldMove_7 rfl ?_
  refine pv_last (v := (iI (0)).toInt64) hx hb hKJ hPo hS (Or.inr rfl) dL_wouldMove_8 (fun H1 locs1 lf2 hv2 hPo2 hz2 hk2 hS => ?_)
  refine lv_goto (tgt := 15) hx hb dL_wouldMove_9 (by decide) ?_
  refine pv_iconst hx hb dL_wouldMove_15 ?_
  exact wr_iret hx hb hr hlocks hS dL_wouldMove_16 rfl ⟨CW_fr (A := fun q => q = o) hCP.2 (fun q _ h => hk2 q h) (fun q h z => hoC (by rw [← z]; exact h)), lf2, hv2, hPo2⟩
set_option maxHeartbeats 4000000 in
set_option maxRecDepth 100000 in
theorem w_would_full (l : Launch) (D : va_G) (cI cZ cJ : ClassId) (base st : Nat) (Z : Nat → Nat) (x0 x1 x2 x5 x6 x7 o : Nat) {n came MV : Int} {F G SP RF RC : Int → Int} (hn : 0 ≤ n ∧ n ≤ 60) (hF : ∀ k : Int, 0 ≤ k → k < n → 0 ≤ F k ∧ F k < 200) (x : Int) (hxr : (-2147483648 ≤ x ∧ x ≤ 2147483647)) (rp : Int) (hrp : PL F n x rp) (h0 : 0 ≤ rp) (hG : ∀ k : Int, 0 ≤ k → k < n → 0 ≤ G k ∧ G k ≤ 255) (hs : SD G n) (hfull : ma G n (rp + 1) - ma G n (rp + 1 - 1) < 2) (a0 : Int) (ha0 : a0 = if ma G n (rp + 1 - 1) < 0 then 0 else ma G n (rp + 1 - 1)) (har : 0 ≤ a0 ∧ a0 ≤ 255) (lv : Int) (hlv : LV G n a0 lv) (r : Int) (hr9 : r = mvn G (rp + 1) (a0 / 2 ^ lv.toNat * 2 ^ lv.toNat) (2 ^ lv.toNat) (mb G n (a0 / 2 ^ lv.toNat * 2 ^ lv.toNat)) (ldn G n lv (a0 / 2 ^ lv.toNat) + 1) (ldn G n lv (a0 / 2 ^ lv.toNat)).toNat) : wr_M l yL_wouldMove wsL_wouldMove ({ frames := 6, cells := 0, slots := 0, locals := 138 } : Room) [.ref x0, .int (iI (x)), .ref o] (WP D cI cZ cJ base st Z x0 x1 x2 x5 x6 x7 o n came MV F G SP RF RC) 0 (fun H => CW D cI base x0 x1 x2 x5 x6 x7 n came MV F G SP RF RC H ∧ ∃ lf, lf 0 = (iI (r)).toInt64 ∧ OC D cJ o lf H) (mO x0 x1 x2 x5 x6 x7 o) 0 0 := by
  refine wr_of (cc := cL_wouldMove) (maxL := 4) (ret := (some .int)) (own := RL) (hh := [(0, 9, 12, 19)]) (by decide) rfl rfl (Nat.le_of_ble_eq_true rfl) ?_
  intro p e s m below meth c ls B hTab hWP hl hS
  obtain ⟨hx, hb, hml, hr, hts, hown, hlocks⟩ := B
  obtain ⟨hCP, hKJ, ⟨lf, hPo⟩, hoC, hnc1, hnc2⟩ := hWP
  have hl : lv_has ls 4 [(0, .ref x0), (1, .int (iI (x))), (2, .ref o)] := hl
  refine lv_aload_n hx hb dL_wouldMove_0 rfl (lv_at hl 2 rfl) ?_
  refine pv_iconst hx hb dL_wouldMove_1 ?_
  refine lv_aload_n hx hb dL_wouldMove_2 rfl (lv_at hl 0 rfl) ?_
  refine lv_iload_n hx hb dL_wouldMove_3 rfl (lv_at hl 1 rfl) ?_
  refine pu_callV (v := r) (As := [.int (iI (x))]) (rest := [.int (iI 0), .ref o]) CP_mv ⟨hx, hb, hml, hown, hts⟩ (c_would_full l D cI cZ base st Z x0 x1 x2 x5 x6 x7 hn hF x hxr rp hrp h0 hG hs hfull a0 ha0 har lv hlv r hr9) (cwV 1 hts gL_wouldMove_X0_wouldMove rfl rfl rfl (by decide +kernel) ⟨(Nat.le_of_ble_eq_true rfl), (Nat.le_of_ble_eq_true rfl)⟩) hCP (CP_rc hCP) rfl rfl hl.1 (Nat.le_of_ble_eq_true rfl) dL_wouldMove_4 ⟨Nat.zero_le _, Nat.zero_le _⟩ ?_
  refine lv_i2l (v := (iI (r)).toInt64) hx hb dL_wouldMove_7 rfl ?_
  refine pv_last (v := (iI (r)).toInt64) hx hb hKJ hPo hS (Or.inr rfl) dL_wouldMove_8 (fun H1 locs1 lf2 hv2 hPo2 hz2 hk2 hS => ?_)
  refine lv_goto (tgt := 15) hx hb dL_wouldMove_9 (by decide) ?_
  refine pv_iconst hx hb dL_wouldMove_15 ?_
  exact wr_iret hx hb hr hlocks hS dL_wouldMove_16 rfl ⟨CW_fr (A := fun q => q = o) hCP.2 (fun q _ h => hk2 q h) (fun q h z => hoC (by rw [← z]; exact h)), lf2, hv2, hPo2⟩
set_option maxHeartbeats 4000000 in
set_option maxRecDepth 100000 in
theorem v_wouldMove (l : Launch) (D : va_G) (cI cZ cJ : ClassId) (base st : Nat) (Z : Nat → Nat) (x0 x1 x2 x5 x6 x7 o : Nat) {n came MV : Int} {F G SP RF RC : Int → Int} (hfl : l.stackTraces = false) (hn : 0 ≤ n ∧ n ≤ 60) (hF : ∀ k : Int, 0 ≤ k → k < n → 0 ≤ F k ∧ F k < 200) (x : Int) (hxr : (-2147483648 ≤ x ∧ x ≤ 2147483647)) (hrp : PL F n x (-1)) : wr_M l yL_wouldMove wsL_wouldMove ({ frames := 8, cells := 1, slots := 6, locals := 135 } : Room) [.ref x0, .int (iI (x)), .ref o] (WP D cI cZ cJ base st Z x0 x1 x2 x5 x6 x7 o n came MV F G SP RF RC) 1 (fun H => CW D cI base x0 x1 x2 x5 x6 x7 n came MV F G SP RF RC H ∧ ∃ lf, OC D cJ o lf H) (mO x0 x1 x2 x5 x6 x7 o) 1 6 := by
  refine wr_of (cc := cL_wouldMove) (maxL := 4) (ret := (some .int)) (own := RL) (hh := [(0, 9, 12, 19)]) (by decide) rfl rfl (Nat.le_of_ble_eq_true rfl) ?_
  intro p e s m below meth c ls B hTab hWP hl hS
  obtain ⟨hx, hb, hml, hr, hts, hown, hlocks⟩ := B
  obtain ⟨hCP, hKJ, ⟨lf, hPo⟩, hoC, hnc1, hnc2⟩ := hWP
  have hl : lv_has ls 4 [(0, .ref x0), (1, .int (iI (x))), (2, .ref o)] := hl
  refine lv_aload_n hx hb dL_wouldMove_0 rfl (lv_at hl 2 rfl) ?_
  refine pv_iconst hx hb dL_wouldMove_1 ?_
  refine lv_aload_n hx hb dL_wouldMove_2 rfl (lv_at hl 0 rfl) ?_
  refine lv_iload_n hx hb dL_wouldMove_3 rfl (lv_at hl 1 rfl) ?_
  refine th_callV (As := [.int (iI (x))]) (rest := [.int (iI 0), .ref o]) CP_mv ⟨hx, hb, hml, hown, hts⟩ (t_wouldMove l D cI cZ base st Z x0 x1 x2 x5 x6 x7 hfl hn hF x hxr hrp) (cwV 1 hts gL_wouldMove_X0_wouldMove rfl rfl rfl (by decide +kernel) ⟨(Nat.le_of_ble_eq_true rfl), (Nat.le_of_ble_eq_true rfl)⟩) hCP (CP_rc hCP) rfl rfl hl.1 (Nat.le_of_ble_eq_true rfl) dL_wouldMove_4 ⟨(Nat.le_of_ble_eq_true rfl), (Nat.le_of_ble_eq_true rfl)⟩ (fun H1 ce q9 h1 h2 h3 h4 h5 => ?_)
  obtain ⟨hK, hZL, hst9, hTW⟩ := id hCP.1
  obtain ⟨tw0, tw1, tw2, tw3, tw4, tw5, kw0, kw1, kw2, kd0, kd1, kd2, hU9, hN9⟩ := hTW
  refine vx_catch (own := RL) (name := "java/lang/IndexOutOfBoundsException") hown [] ⟨0, 9, 12, 19⟩ [] (hTab.trans rfl) (fun z hz => by cases hz) rfl (by decide) (hts (.classLink RL 19 "java/lang/IndexOutOfBoundsException") (by decide +kernel)) (va_Nw.use rfl kw0) h3 h4 h5 ?_
  show W p l e _ s m _ below meth c H1 [] (0 + 1) (0 + 6) _ (F0 m 12 ls [.ref q9])
  refine lv_astore_n (lv' := [(3, .ref q9), (0, .ref x0), (1, .int (iI (x))), (2, .ref o)]) hx hb dL_wouldMove_12 rfl hl (by decide) rfl (fun ls hl => ?_)
  refine pv_iconst hx hb dL_wouldMove_13 ?_
  have hk : ∀ q : Nat, q < s.heap.size → ¬ (fun _ => False) q → H1[q]? = s.heap[q]? := fun q a _ => h2 q a
  exact wr_iret hx hb hr hlocks ⟨h1, fun q a _ => h2 q a, fun _ h => by cases h⟩ dL_wouldMove_14 rfl ⟨CW_fr hCP.2 hk (fun _ _ h => h), lf, OC_fr hPo hk (fun h => h)⟩
set_option maxHeartbeats 4000000 in
set_option maxRecDepth 100000 in
theorem w_seat (l : Launch) (D : va_G) (cI cZ cJ : ClassId) (base st : Nat) (Z : Nat → Nat) (x0 x1 x2 x5 x6 x7 o : Nat) {n came MV : Int} {F G SP RF RC : Int → Int} (hn : 0 ≤ n ∧ n ≤ 60) (hF : ∀ k : Int, 0 ≤ k → k < n → 0 ≤ F k ∧ F k < 200) (hRF : ∀ k : Int, 0 ≤ k → k < 4 → -1 ≤ RF k ∧ RF k < 200) (u : Int) (hu : 0 ≤ u ∧ u < 4) (x : Int) (hxr : (-2147483648 ≤ x ∧ x ≤ 2147483647)) (rp : Int) (hrp : PL F n x rp) (h0 : 0 ≤ rp) : wr_M l yL_seat wsL_seat ({ frames := 3, cells := 0, slots := 0, locals := 66 } : Room) [.ref x0, .int (iI (u)), .int (iI (x)), .ref o] (WP D cI cZ cJ base st Z x0 x1 x2 x5 x6 x7 o n came MV F G SP RF RC) 0 (fun H => (fun H => CW D cI base x0 x1 x2 x5 x6 x7 (n) (came) (MV) (F) (G) (SP) (uI RF u x) (RC) H) H ∧ ∃ lf, lf 0 = (iI (cn (fun k => decide (uI RF u x k = x)) 4)).toInt64 ∧ OC D cJ o lf H) (mO x0 x1 x2 x5 x6 x7 o) 0 0 := by
  refine wr_of (cc := cL_seat) (maxL := 5) (ret := (some .int)) (own := RL) (hh := [(0, 10, 13, 19)]) (by decide) rfl rfl (Nat.le_of_ble_eq_true rfl) ?_
  intro p e s m below meth c ls B hTab hWP hl hS
  obtain ⟨hx, hb, hml, hr, hts, hown, hlocks⟩ := B
  obtain ⟨hCP, hKJ, ⟨lf, hPo⟩, hoC, hnc1, hnc2⟩ := hWP
  have hl : lv_has ls 5 [(0, .ref x0), (1, .int (iI (u))), (2, .int (iI (x))), (3, .ref o)] := hl
  refine lv_aload_n hx hb dL_seat_0 rfl (lv_at hl 3 rfl) ?_
  refine pv_iconst hx hb dL_seat_1 ?_
  refine lv_aload_n hx hb dL_seat_2 rfl (lv_at hl 0 rfl) ?_
  refine lv_iload_n hx hb dL_seat_3 rfl (lv_at hl 1 rfl) ?_
  refine lv_iload_n hx hb dL_seat_4 rfl (lv_at hl 2 rfl) ?_
  refine mu_callV (As := [.int (iI (u)), .int (iI (x))]) (rest := [.int (iI 0), .ref o]) CP_mv ⟨hx, hb, hml, hown, hts⟩ (c_seat l D cI cZ base st Z x0 x1 x2 x5 x6 x7 hn hF hRF u hu x hxr rp hrp h0) (cwV 2 hts gL_seat_X0_seat rfl rfl rfl (by decide +kernel) ⟨(Nat.le_of_ble_eq_true rfl), (Nat.le_of_ble_eq_true rfl)⟩) hCP (CP_rc hCP) rfl rfl hl.1 (Nat.le_of_ble_eq_true rfl) dL_seat_5 ⟨Nat.zero_le _, Nat.zero_le _⟩ hS (fun q h => Or.inl h) (fun H locs hC9 hz9 hk9 hS => ?_)
  have hPo := OC_fr hPo hk9 hoC
  refine lv_i2l (v := (iI (cn (fun k => decide (uI RF u x k = x)) 4)).toInt64) hx hb dL_seat_8 rfl ?_
  refine pv_last (v := (iI (cn (fun k => decide (uI RF u x k = x)) 4)).toInt64) hx hb hKJ hPo hS (Or.inr rfl) dL_seat_9 (fun H1 locs1 lf2 hv2 hPo2 hz2 hk2 hS => ?_)
  refine lv_goto (tgt := 17) hx hb dL_seat_10 (by decide) ?_
  refine pv_iconst hx hb dL_seat_17 ?_
  exact wr_iret hx hb hr hlocks hS dL_seat_18 rfl ⟨CW_fr (A := fun q => q = o) hC9 (fun q _ h => hk2 q h) (fun q h z => hoC (by rw [← z]; exact h)), lf2, hv2, hPo2⟩
set_option maxHeartbeats 4000000 in
set_option maxRecDepth 100000 in
theorem v_seat (l : Launch) (D : va_G) (cI cZ cJ : ClassId) (base st : Nat) (Z : Nat → Nat) (x0 x1 x2 x5 x6 x7 o : Nat) {n came MV : Int} {F G SP RF RC : Int → Int} (hfl : l.stackTraces = false) (u : Int) (hur : (-2147483648 ≤ u ∧ u ≤ 2147483647)) (hu : ¬ (0 ≤ u ∧ u < 4)) (x : Int) : wr_M l yL_seat wsL_seat ({ frames := 8, cells := 1, slots := 6, locals := 134 } : Room) [.ref x0, .int (iI (u)), .int (iI (x)), .ref o] (WP D cI cZ cJ base st Z x0 x1 x2 x5 x6 x7 o n came MV F G SP RF RC) 1 (fun H => CW D cI base x0 x1 x2 x5 x6 x7 n came MV F G SP RF RC H ∧ ∃ lf, OC D cJ o lf H) (mO x0 x1 x2 x5 x6 x7 o) 1 6 := by
  refine wr_of (cc := cL_seat) (maxL := 5) (ret := (some .int)) (own := RL) (hh := [(0, 10, 13, 19)]) (by decide) rfl rfl (Nat.le_of_ble_eq_true rfl) ?_
  intro p e s m below meth c ls B hTab hWP hl hS
  obtain ⟨hx, hb, hml, hr, hts, hown, hlocks⟩ := B
  obtain ⟨hCP, hKJ, ⟨lf, hPo⟩, hoC, hnc1, hnc2⟩ := hWP
  have hl : lv_has ls 5 [(0, .ref x0), (1, .int (iI (u))), (2, .int (iI (x))), (3, .ref o)] := hl
  refine lv_aload_n hx hb dL_seat_0 rfl (lv_at hl 3 rfl) ?_
  refine pv_iconst hx hb dL_seat_1 ?_
  refine lv_aload_n hx hb dL_seat_2 rfl (lv_at hl 0 rfl) ?_
  refine lv_iload_n hx hb dL_seat_3 rfl (lv_at hl 1 rfl) ?_
  refine lv_iload_n hx hb dL_seat_4 rfl (lv_at hl 2 rfl) ?_
  refine th_callV (As := [.int (iI (u)), .int (iI (x))]) (rest := [.int (iI 0), .ref o]) CP_mv ⟨hx, hb, hml, hown, hts⟩ (t_seat l D cI cZ base st Z x0 x1 x2 x5 x6 x7 hfl u hur hu x) (cwV 2 hts gL_seat_X0_seat rfl rfl rfl (by decide +kernel) ⟨(Nat.le_of_ble_eq_true rfl), (Nat.le_of_ble_eq_true rfl)⟩) hCP (CP_rc hCP) rfl rfl hl.1 (Nat.le_of_ble_eq_true rfl) dL_seat_5 ⟨(Nat.le_of_ble_eq_true rfl), (Nat.le_of_ble_eq_true rfl)⟩ (fun H1 ce q9 h1 h2 h3 h4 h5 => ?_)
  obtain ⟨hK, hZL, hst9, hTW⟩ := id hCP.1
  obtain ⟨tw0, tw1, tw2, tw3, tw4, tw5, kw0, kw1, kw2, kd0, kd1, kd2, hU9, hN9⟩ := hTW
  refine vx_catch (own := RL) (name := "java/lang/IndexOutOfBoundsException") hown [] ⟨0, 10, 13, 19⟩ [] (hTab.trans rfl) (fun z hz => by cases hz) rfl (by decide) (hts (.classLink RL 19 "java/lang/IndexOutOfBoundsException") (by decide +kernel)) (va_Nw.use rfl kw0) h3 h4 h5 ?_
  show W p l e _ s m _ below meth c H1 [] (0 + 1) (0 + 6) _ (F0 m 13 ls [.ref q9])
  refine lv_astore (lv' := [(4, .ref q9), (0, .ref x0), (1, .int (iI (u))), (2, .int (iI (x))), (3, .ref o)]) hx hb dL_seat_13 hl (by decide) rfl (fun ls hl => ?_)
  refine pv_iconst hx hb dL_seat_15 ?_
  have hk : ∀ q : Nat, q < s.heap.size → ¬ (fun _ => False) q → H1[q]? = s.heap[q]? := fun q a _ => h2 q a
  exact wr_iret hx hb hr hlocks ⟨h1, fun q a _ => h2 q a, fun _ h => by cases h⟩ dL_seat_16 rfl ⟨CW_fr hCP.2 hk (fun _ _ h => h), lf, OC_fr hPo hk (fun h => h)⟩
set_option maxHeartbeats 4000000 in
set_option maxRecDepth 100000 in
theorem v_seat2 (l : Launch) (D : va_G) (cI cZ cJ : ClassId) (base st : Nat) (Z : Nat → Nat) (x0 x1 x2 x5 x6 x7 o : Nat) {n came MV : Int} {F G SP RF RC : Int → Int} (hfl : l.stackTraces = false) (hn : 0 ≤ n ∧ n ≤ 60) (hF : ∀ k : Int, 0 ≤ k → k < n → 0 ≤ F k ∧ F k < 200) (u : Int) (hu : 0 ≤ u ∧ u < 4) (x : Int) (hxr : (-2147483648 ≤ x ∧ x ≤ 2147483647)) (hrp : PL F n x (-1)) : wr_M l yL_seat wsL_seat ({ frames := 8, cells := 1, slots := 6, locals := 136 } : Room) [.ref x0, .int (iI (u)), .int (iI (x)), .ref o] (WP D cI cZ cJ base st Z x0 x1 x2 x5 x6 x7 o n came MV F G SP RF RC) 1 (fun H => CW D cI base x0 x1 x2 x5 x6 x7 n came MV F G SP RF RC H ∧ ∃ lf, OC D cJ o lf H) (mO x0 x1 x2 x5 x6 x7 o) 1 6 := by
  refine wr_of (cc := cL_seat) (maxL := 5) (ret := (some .int)) (own := RL) (hh := [(0, 10, 13, 19)]) (by decide) rfl rfl (Nat.le_of_ble_eq_true rfl) ?_
  intro p e s m below meth c ls B hTab hWP hl hS
  obtain ⟨hx, hb, hml, hr, hts, hown, hlocks⟩ := B
  obtain ⟨hCP, hKJ, ⟨lf, hPo⟩, hoC, hnc1, hnc2⟩ := hWP
  have hl : lv_has ls 5 [(0, .ref x0), (1, .int (iI (u))), (2, .int (iI (x))), (3, .ref o)] := hl
  refine lv_aload_n hx hb dL_seat_0 rfl (lv_at hl 3 rfl) ?_
  refine pv_iconst hx hb dL_seat_1 ?_
  refine lv_aload_n hx hb dL_seat_2 rfl (lv_at hl 0 rfl) ?_
  refine lv_iload_n hx hb dL_seat_3 rfl (lv_at hl 1 rfl) ?_
  refine lv_iload_n hx hb dL_seat_4 rfl (lv_at hl 2 rfl) ?_
  refine th_callV (As := [.int (iI (u)), .int (iI (x))]) (rest := [.int (iI 0), .ref o]) CP_mv ⟨hx, hb, hml, hown, hts⟩ (t_seat2 l D cI cZ base st Z x0 x1 x2 x5 x6 x7 hfl hn hF u hu x hxr hrp) (cwV 2 hts gL_seat_X0_seat rfl rfl rfl (by decide +kernel) ⟨(Nat.le_of_ble_eq_true rfl), (Nat.le_of_ble_eq_true rfl)⟩) hCP (CP_rc hCP) rfl rfl hl.1 (Nat.le_of_ble_eq_true rfl) dL_seat_5 ⟨(Nat.le_of_ble_eq_true rfl), (Nat.le_of_ble_eq_true rfl)⟩ (fun H1 ce q9 h1 h2 h3 h4 h5 => ?_)
  obtain ⟨hK, hZL, hst9, hTW⟩ := id hCP.1
  obtain ⟨tw0, tw1, tw2, tw3, tw4, tw5, kw0, kw1, kw2, kd0, kd1, kd2, hU9, hN9⟩ := hTW
  refine vx_catch (own := RL) (name := "java/lang/IndexOutOfBoundsException") hown [] ⟨0, 10, 13, 19⟩ [] (hTab.trans rfl) (fun z hz => by cases hz) rfl (by decide) (hts (.classLink RL 19 "java/lang/IndexOutOfBoundsException") (by decide +kernel)) (va_Nw.use rfl kw0) h3 h4 h5 ?_
  show W p l e _ s m _ below meth c H1 [] (0 + 1) (0 + 6) _ (F0 m 13 ls [.ref q9])
  refine lv_astore (lv' := [(4, .ref q9), (0, .ref x0), (1, .int (iI (u))), (2, .int (iI (x))), (3, .ref o)]) hx hb dL_seat_13 hl (by decide) rfl (fun ls hl => ?_)
  refine pv_iconst hx hb dL_seat_15 ?_
  have hk : ∀ q : Nat, q < s.heap.size → ¬ (fun _ => False) q → H1[q]? = s.heap[q]? := fun q a _ => h2 q a
  exact wr_iret hx hb hr hlocks ⟨h1, fun q a _ => h2 q a, fun _ h => by cases h⟩ dL_seat_16 rfl ⟨CW_fr hCP.2 hk (fun _ _ h => h), lf, OC_fr hPo hk (fun h => h)⟩
set_option maxHeartbeats 4000000 in
set_option maxRecDepth 100000 in
theorem w_daysTo (l : Launch) (D : va_G) (cI cZ cJ : ClassId) (base st : Nat) (Z : Nat → Nat) (x0 x1 x2 x5 x6 x7 o : Nat) {n came MV : Int} {F G SP RF RC : Int → Int} (hn : 0 ≤ n ∧ n ≤ 60) (hF : ∀ k : Int, 0 ≤ k → k < n → 0 ≤ F k ∧ F k < 200) (hRF : ∀ k : Int, 0 ≤ k → k < 4 → -1 ≤ RF k ∧ RF k < 200) (u v : Int) (hu : 0 ≤ u ∧ u < 4) (hv : 0 ≤ v ∧ v < 4) (ru : Int) (hru : PL F n (RF u) ru) (rv : Int) (hrv : PL F n (RF v) rv) (r : Int) (hr9 : r = if ru = -1 ∨ rv < ru then -1 else rv - ru) : wr_M l yL_daysTo wsL_daysTo ({ frames := 2, cells := 0, slots := 0, locals := 46 } : Room) [.ref x0, .int (iI (u)), .int (iI (v)), .ref o] (WP D cI cZ cJ base st Z x0 x1 x2 x5 x6 x7 o n came MV F G SP RF RC) 0 (fun H => CW D cI base x0 x1 x2 x5 x6 x7 n came MV F G SP RF RC H ∧ ∃ lf, lf 0 = (iI (r)).toInt64 ∧ OC D cJ o lf H) (mO x0 x1 x2 x5 x6 x7 o) 0 0 := by
  refine wr_of (cc := cL_daysTo) (maxL := 5) (ret := (some .int)) (own := RL) (hh := [(0, 10, 13, 19)]) (by decide) rfl rfl (Nat.le_of_ble_eq_true rfl) ?_
  intro p e s m below meth c ls B hTab hWP hl hS
  obtain ⟨hx, hb, hml, hr, hts, hown, hlocks⟩ := B
  obtain ⟨hCP, hKJ, ⟨lf, hPo⟩, hoC, hnc1, hnc2⟩ := hWP
  have hl : lv_has ls 5 [(0, .ref x0), (1, .int (iI (u))), (2, .int (iI (v))), (3, .ref o)] := hl
  refine lv_aload_n hx hb dL_daysTo_0 rfl (lv_at hl 3 rfl) ?_
  refine pv_iconst hx hb dL_daysTo_1 ?_
  refine lv_aload_n hx hb dL_daysTo_2 rfl (lv_at hl 0 rfl) ?_
  refine lv_iload_n hx hb dL_daysTo_3 rfl (lv_at hl 1 rfl) ?_
  refine lv_iload_n hx hb dL_daysTo_4 rfl (lv_at hl 2 rfl) ?_
  refine pu_callV (v := r) (As := [.int (iI (u)), .int (iI (v))]) (rest := [.int (iI 0), .ref o]) CP_mv ⟨hx, hb, hml, hown, hts⟩ (c_daysTo l D cI cZ base st Z x0 x1 x2 x5 x6 x7 hn hF hRF u v hu hv ru hru rv hrv r hr9) (cwV 2 hts gL_daysTo_X0_daysTo rfl rfl rfl (by decide +kernel) ⟨(Nat.le_of_ble_eq_true rfl), (Nat.le_of_ble_eq_true rfl)⟩) hCP (CP_rc hCP) rfl rfl hl.1 (Nat.le_of_ble_eq_true rfl) dL_daysTo_5 ⟨Nat.zero_le _, Nat.zero_le _⟩ ?_
  refine lv_i2l (v := (iI (r)).toInt64) hx hb dL_daysTo_8 rfl ?_
  refine pv_last (v := (iI (r)).toInt64) hx hb hKJ hPo hS (Or.inr rfl) dL_daysTo_9 (fun H1 locs1 lf2 hv2 hPo2 hz2 hk2 hS => ?_)
  refine lv_goto (tgt := 17) hx hb dL_daysTo_10 (by decide) ?_
  refine pv_iconst hx hb dL_daysTo_17 ?_
  exact wr_iret hx hb hr hlocks hS dL_daysTo_18 rfl ⟨CW_fr (A := fun q => q = o) hCP.2 (fun q _ h => hk2 q h) (fun q h z => hoC (by rw [← z]; exact h)), lf2, hv2, hPo2⟩
set_option maxHeartbeats 4000000 in
set_option maxRecDepth 100000 in
theorem v_daysTo (l : Launch) (D : va_G) (cI cZ cJ : ClassId) (base st : Nat) (Z : Nat → Nat) (x0 x1 x2 x5 x6 x7 o : Nat) {n came MV : Int} {F G SP RF RC : Int → Int} (hfl : l.stackTraces = false) (u v : Int) (hur : (-2147483648 ≤ u ∧ u ≤ 2147483647)) (hu : ¬ (0 ≤ u ∧ u < 4)) : wr_M l yL_daysTo wsL_daysTo ({ frames := 8, cells := 1, slots := 6, locals := 136 } : Room) [.ref x0, .int (iI (u)), .int (iI (v)), .ref o] (WP D cI cZ cJ base st Z x0 x1 x2 x5 x6 x7 o n came MV F G SP RF RC) 1 (fun H => CW D cI base x0 x1 x2 x5 x6 x7 n came MV F G SP RF RC H ∧ ∃ lf, OC D cJ o lf H) (mO x0 x1 x2 x5 x6 x7 o) 1 6 := by
  refine wr_of (cc := cL_daysTo) (maxL := 5) (ret := (some .int)) (own := RL) (hh := [(0, 10, 13, 19)]) (by decide) rfl rfl (Nat.le_of_ble_eq_true rfl) ?_
  intro p e s m below meth c ls B hTab hWP hl hS
  obtain ⟨hx, hb, hml, hr, hts, hown, hlocks⟩ := B
  obtain ⟨hCP, hKJ, ⟨lf, hPo⟩, hoC, hnc1, hnc2⟩ := hWP
  have hl : lv_has ls 5 [(0, .ref x0), (1, .int (iI (u))), (2, .int (iI (v))), (3, .ref o)] := hl
  refine lv_aload_n hx hb dL_daysTo_0 rfl (lv_at hl 3 rfl) ?_
  refine pv_iconst hx hb dL_daysTo_1 ?_
  refine lv_aload_n hx hb dL_daysTo_2 rfl (lv_at hl 0 rfl) ?_
  refine lv_iload_n hx hb dL_daysTo_3 rfl (lv_at hl 1 rfl) ?_
  refine lv_iload_n hx hb dL_daysTo_4 rfl (lv_at hl 2 rfl) ?_
  refine th_callV (As := [.int (iI (u)), .int (iI (v))]) (rest := [.int (iI 0), .ref o]) CP_mv ⟨hx, hb, hml, hown, hts⟩ (t_daysTo l D cI cZ base st Z x0 x1 x2 x5 x6 x7 hfl u v hur hu) (cwV 2 hts gL_daysTo_X0_daysTo rfl rfl rfl (by decide +kernel) ⟨(Nat.le_of_ble_eq_true rfl), (Nat.le_of_ble_eq_true rfl)⟩) hCP (CP_rc hCP) rfl rfl hl.1 (Nat.le_of_ble_eq_true rfl) dL_daysTo_5 ⟨(Nat.le_of_ble_eq_true rfl), (Nat.le_of_ble_eq_true rfl)⟩ (fun H1 ce q9 h1 h2 h3 h4 h5 => ?_)
  obtain ⟨hK, hZL, hst9, hTW⟩ := id hCP.1
  obtain ⟨tw0, tw1, tw2, tw3, tw4, tw5, kw0, kw1, kw2, kd0, kd1, kd2, hU9, hN9⟩ := hTW
  refine vx_catch (own := RL) (name := "java/lang/IndexOutOfBoundsException") hown [] ⟨0, 10, 13, 19⟩ [] (hTab.trans rfl) (fun z hz => by cases hz) rfl (by decide) (hts (.classLink RL 19 "java/lang/IndexOutOfBoundsException") (by decide +kernel)) (va_Nw.use rfl kw0) h3 h4 h5 ?_
  show W p l e _ s m _ below meth c H1 [] (0 + 1) (0 + 6) _ (F0 m 13 ls [.ref q9])
  refine lv_astore (lv' := [(4, .ref q9), (0, .ref x0), (1, .int (iI (u))), (2, .int (iI (v))), (3, .ref o)]) hx hb dL_daysTo_13 hl (by decide) rfl (fun ls hl => ?_)
  refine pv_iconst hx hb dL_daysTo_15 ?_
  have hk : ∀ q : Nat, q < s.heap.size → ¬ (fun _ => False) q → H1[q]? = s.heap[q]? := fun q a _ => h2 q a
  exact wr_iret hx hb hr hlocks ⟨h1, fun q a _ => h2 q a, fun _ h => by cases h⟩ dL_daysTo_16 rfl ⟨CW_fr hCP.2 hk (fun _ _ h => h), lf, OC_fr hPo hk (fun h => h)⟩
set_option maxHeartbeats 4000000 in
set_option maxRecDepth 100000 in
theorem v_daysTo2 (l : Launch) (D : va_G) (cI cZ cJ : ClassId) (base st : Nat) (Z : Nat → Nat) (x0 x1 x2 x5 x6 x7 o : Nat) {n came MV : Int} {F G SP RF RC : Int → Int} (hfl : l.stackTraces = false) (u v : Int) (hu : 0 ≤ u ∧ u < 4) (hvr : (-2147483648 ≤ v ∧ v ≤ 2147483647)) (hv : ¬ (0 ≤ v ∧ v < 4)) : wr_M l yL_daysTo wsL_daysTo ({ frames := 8, cells := 1, slots := 6, locals := 136 } : Room) [.ref x0, .int (iI (u)), .int (iI (v)), .ref o] (WP D cI cZ cJ base st Z x0 x1 x2 x5 x6 x7 o n came MV F G SP RF RC) 1 (fun H => CW D cI base x0 x1 x2 x5 x6 x7 n came MV F G SP RF RC H ∧ ∃ lf, OC D cJ o lf H) (mO x0 x1 x2 x5 x6 x7 o) 1 6 := by
  refine wr_of (cc := cL_daysTo) (maxL := 5) (ret := (some .int)) (own := RL) (hh := [(0, 10, 13, 19)]) (by decide) rfl rfl (Nat.le_of_ble_eq_true rfl) ?_
  intro p e s m below meth c ls B hTab hWP hl hS
  obtain ⟨hx, hb, hml, hr, hts, hown, hlocks⟩ := B
  obtain ⟨hCP, hKJ, ⟨lf, hPo⟩, hoC, hnc1, hnc2⟩ := hWP
  have hl : lv_has ls 5 [(0, .ref x0), (1, .int (iI (u))), (2, .int (iI (v))), (3, .ref o)] := hl
  refine lv_aload_n hx hb dL_daysTo_0 rfl (lv_at hl 3 rfl) ?_
  refine pv_iconst hx hb dL_daysTo_1 ?_
  refine lv_aload_n hx hb dL_daysTo_2 rfl (lv_at hl 0 rfl) ?_
  refine lv_iload_n hx hb dL_daysTo_3 rfl (lv_at hl 1 rfl) ?_
  refine lv_iload_n hx hb dL_daysTo_4 rfl (lv_at hl 2 rfl) ?_
  refine th_callV (As := [.int (iI (u)), .int (iI (v))]) (rest := [.int (iI 0), .ref o]) CP_mv ⟨hx, hb, hml, hown, hts⟩ (t_daysTo2 l D cI cZ base st Z x0 x1 x2 x5 x6 x7 hfl u v hu hvr hv) (cwV 2 hts gL_daysTo_X0_daysTo rfl rfl rfl (by decide +kernel) ⟨(Nat.le_of_ble_eq_true rfl), (Nat.le_of_ble_eq_true rfl)⟩) hCP (CP_rc hCP) rfl rfl hl.1 (Nat.le_of_ble_eq_true rfl) dL_daysTo_5 ⟨(Nat.le_of_ble_eq_true rfl), (Nat.le_of_ble_eq_true rfl)⟩ (fun H1 ce q9 h1 h2 h3 h4 h5 => ?_)
  obtain ⟨hK, hZL, hst9, hTW⟩ := id hCP.1
  obtain ⟨tw0, tw1, tw2, tw3, tw4, tw5, kw0, kw1, kw2, kd0, kd1, kd2, hU9, hN9⟩ := hTW
  refine vx_catch (own := RL) (name := "java/lang/IndexOutOfBoundsException") hown [] ⟨0, 10, 13, 19⟩ [] (hTab.trans rfl) (fun z hz => by cases hz) rfl (by decide) (hts (.classLink RL 19 "java/lang/IndexOutOfBoundsException") (by decide +kernel)) (va_Nw.use rfl kw0) h3 h4 h5 ?_
  show W p l e _ s m _ below meth c H1 [] (0 + 1) (0 + 6) _ (F0 m 13 ls [.ref q9])
  refine lv_astore (lv' := [(4, .ref q9), (0, .ref x0), (1, .int (iI (u))), (2, .int (iI (v))), (3, .ref o)]) hx hb dL_daysTo_13 hl (by decide) rfl (fun ls hl => ?_)
  refine pv_iconst hx hb dL_daysTo_15 ?_
  have hk : ∀ q : Nat, q < s.heap.size → ¬ (fun _ => False) q → H1[q]? = s.heap[q]? := fun q a _ => h2 q a
  exact wr_iret hx hb hr hlocks ⟨h1, fun q a _ => h2 q a, fun _ h => by cases h⟩ dL_daysTo_16 rfl ⟨CW_fr hCP.2 hk (fun _ _ h => h), lf, OC_fr hPo hk (fun h => h)⟩
