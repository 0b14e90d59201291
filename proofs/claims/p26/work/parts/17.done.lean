/-- what the helper wants where the class throws IllegalArgumentException -/
def DP (D : va_G) (cI : ClassId) (base st : Nat) (Z : Nat → Nat) (x0 x1 x2 x5 x6 x7 : Nat) (n came MV : Int) (F G SP RF RC : Int → Int) : State → Heap → Prop := fun U H => CP D cI base st Z x0 x1 x2 x5 x6 x7 n came MV F G SP RF RC U H ∧ va_Nc "java/lang/IllegalArgumentException" "java/lang/IllegalStateException" U ∧ va_Nc "java/lang/IllegalArgumentException" "java/lang/IndexOutOfBoundsException" U
theorem DP_mv {D : va_G} {cI : ClassId} {base st : Nat} {Z : Nat → Nat} {x0 x1 x2 x5 x6 x7 : Nat} {n came MV : Int} {F G SP RF RC : Int → Int} : mvb (DP D cI base st Z x0 x1 x2 x5 x6 x7 n came MV F G SP RF RC) := fun _ _ _ hW h => ⟨CP_mv _ _ _ hW h.1, va_Nc.moved hW.alike h.2.1, va_Nc.moved hW.alike h.2.2⟩
set_option maxHeartbeats 4000000 in
set_option maxRecDepth 100000 in
theorem q_next (l : Launch) (D : va_G) (cI : ClassId) (base st : Nat) (Z : Nat → Nat) (x0 x1 x2 x5 x6 x7 : Nat) {n came MV : Int} {F G SP RF RC : Int → Int} (hn : 0 ≤ n ∧ n ≤ 60) (hF : ∀ k : Int, 0 ≤ k → k < n → 0 ≤ F k ∧ F k < 200) (x : Int) (hxr : (-2147483648 ≤ x ∧ x ≤ 2147483647)) (rp : Int) (hrp : PL F n x rp) (h0 : 0 ≤ rp) (r : Int) (hr9 : r = fa F n (rp + 1))  : ar_M l yL_asked wsL_asked ({ frames := 3, cells := 0, slots := 0, locals := 65 } : Room) [.ref x0, .int (iI (0)), .int (iI (x))] (CP D cI base st Z x0 x1 x2 x5 x6 x7 n came MV F G SP RF RC) (r) := by
  refine ar_of (cc := cL_asked) (maxL := 4) (ret := (some .int)) (own := RL) (hh := [(0, 56, 57, 31)]) (by decide) rfl rfl (Nat.le_of_ble_eq_true rfl) ?_
  intro p e s m below meth c ls B hCP hl
  obtain ⟨hx, hb, hml, hr, hts, hown, hlocks⟩ := B
  have hl : lv_has ls 4 [(0, .ref x0), (1, .int (iI (0))), (2, .int (iI (x)))] := hl
  refine lv_iload_n hx hb dL_asked_0 rfl (lv_at hl 1 rfl) ?_
  refine pv_if_ne (tgt := 12) hx hb dL_asked_1 (by decide) (by omega) (fun c9 => False.elim (by omega)) (fun _ => ?_)
  refine lv_aload_n hx hb dL_asked_4 rfl (lv_at hl 0 rfl) ?_
  refine lv_iload_n hx hb dL_asked_5 rfl (lv_at hl 2 rfl) ?_
  refine pu_callV (v := r) (As := [.int (iI (x))]) (rest := []) CP_mv ⟨hx, hb, hml, hown, hts⟩ (c_next l D cI base st Z x0 x1 x2 x5 x6 x7 hn hF x hxr rp hrp h0 r hr9) (cwV 1 hts gL_asked_X0_next rfl rfl rfl (by decide +kernel) ⟨(Nat.le_of_ble_eq_true rfl), (Nat.le_of_ble_eq_true rfl)⟩) hCP (CP_rc hCP) rfl rfl hl.1 (Nat.le_of_ble_eq_true rfl) dL_asked_6 ⟨Nat.zero_le _, Nat.zero_le _⟩ ?_
  refine lv_goto (tgt := 56) hx hb dL_asked_9 (by decide) ?_
  exact ar_iret hx hb hr hlocks dL_asked_56 rfl
set_option maxHeartbeats 4000000 in
set_option maxRecDepth 100000 in
theorem q_mark (l : Launch) (D : va_G) (cI : ClassId) (base st : Nat) (Z : Nat → Nat) (x0 x1 x2 x5 x6 x7 : Nat) {n came MV : Int} {F G SP RF RC : Int → Int} (hn : 0 ≤ n ∧ n ≤ 60) (hF : ∀ k : Int, 0 ≤ k → k < n → 0 ≤ F k ∧ F k < 200) (x : Int) (hxr : (-2147483648 ≤ x ∧ x ≤ 2147483647)) (rp : Int) (hrp : PL F n x rp) (h0 : 0 ≤ rp)  : ar_M l yL_asked wsL_asked ({ frames := 3, cells := 0, slots := 0, locals := 65 } : Room) [.ref x0, .int (iI (1)), .int (iI (x))] (CP D cI base st Z x0 x1 x2 x5 x6 x7 n came MV F G SP RF RC) (G rp) := by
  refine ar_of (cc := cL_asked) (maxL := 4) (ret := (some .int)) (own := RL) (hh := [(0, 56, 57, 31)]) (by decide) rfl rfl (Nat.le_of_ble_eq_true rfl) ?_
  intro p e s m below meth c ls B hCP hl
  obtain ⟨hx, hb, hml, hr, hts, hown, hlocks⟩ := B
  have hl : lv_has ls 4 [(0, .ref x0), (1, .int (iI (1))), (2, .int (iI (x)))] := hl
  refine lv_iload_n hx hb dL_asked_0 rfl (lv_at hl 1 rfl) ?_
  refine pv_if_ne (tgt := 12) hx hb dL_asked_1 (by decide) (by omega) (fun _ => ?_) (fun c9 => False.elim (by omega))
  refine lv_iload_n hx hb dL_asked_12 rfl (lv_at hl 1 rfl) ?_
  refine pv_iconst hx hb dL_asked_13 ?_
  refine pv_icmp_ne (tgt := 25) hx hb dL_asked_14 (by decide) (by omega) (fun c9 => False.elim (by omega)) (fun _ => ?_)
  refine lv_aload_n hx hb dL_asked_17 rfl (lv_at hl 0 rfl) ?_
  refine lv_iload_n hx hb dL_asked_18 rfl (lv_at hl 2 rfl) ?_
  refine pu_callV (v := G rp) (As := [.int (iI (x))]) (rest := []) CP_mv ⟨hx, hb, hml, hown, hts⟩ (c_mark l D cI base st Z x0 x1 x2 x5 x6 x7 hn hF x hxr rp hrp h0) (cwV 1 hts gL_asked_X0_mark rfl rfl rfl (by decide +kernel) ⟨(Nat.le_of_ble_eq_true rfl), (Nat.le_of_ble_eq_true rfl)⟩) hCP (CP_rc hCP) rfl rfl hl.1 (Nat.le_of_ble_eq_true rfl) dL_asked_19 ⟨Nat.zero_le _, Nat.zero_le _⟩ ?_
  refine lv_goto (tgt := 56) hx hb dL_asked_22 (by decide) ?_
  exact ar_iret hx hb hr hlocks dL_asked_56 rfl
set_option maxHeartbeats 4000000 in
set_option maxRecDepth 100000 in
theorem q_ahead (l : Launch) (D : va_G) (cI : ClassId) (base st : Nat) (Z : Nat → Nat) (x0 x1 x2 x5 x6 x7 : Nat) {n came MV : Int} {F G SP RF RC : Int → Int} (hn : 0 ≤ n ∧ n ≤ 60) (hF : ∀ k : Int, 0 ≤ k → k < n → 0 ≤ F k ∧ F k < 200) (x : Int) (hxr : (-2147483648 ≤ x ∧ x ≤ 2147483647)) (rp : Int) (hrp : PL F n x rp) (h0 : 0 ≤ rp) (hG : ∀ k : Int, 0 ≤ k → k < n → 0 ≤ G k ∧ G k ≤ 255) (hs : SD G n)  : ar_M l yL_asked wsL_asked ({ frames := 3, cells := 0, slots := 0, locals := 65 } : Room) [.ref x0, .int (iI (2)), .int (iI (x))] (CP D cI base st Z x0 x1 x2 x5 x6 x7 n came MV F G SP RF RC) (mb G n (G rp)) := by
  refine ar_of (cc := cL_asked) (maxL := 4) (ret := (some .int)) (own := RL) (hh := [(0, 56, 57, 31)]) (by decide) rfl rfl (Nat.le_of_ble_eq_true rfl) ?_
  intro p e s m below meth c ls B hCP hl
  obtain ⟨hx, hb, hml, hr, hts, hown, hlocks⟩ := B
  have hl : lv_has ls 4 [(0, .ref x0), (1, .int (iI (2))), (2, .int (iI (x)))] := hl
  refine lv_iload_n hx hb dL_asked_0 rfl (lv_at hl 1 rfl) ?_
  refine pv_if_ne (tgt := 12) hx hb dL_asked_1 (by decide) (by omega) (fun _ => ?_) (fun c9 => False.elim (by omega))
  refine lv_iload_n hx hb dL_asked_12 rfl (lv_at hl 1 rfl) ?_
  refine pv_iconst hx hb dL_asked_13 ?_
  refine pv_icmp_ne (tgt := 25) hx hb dL_asked_14 (by decide) (by omega) (fun _ => ?_) (fun c9 => False.elim (by omega))
  refine lv_iload_n hx hb dL_asked_25 rfl (lv_at hl 1 rfl) ?_
  refine pv_iconst hx hb dL_asked_26 ?_
  refine pv_icmp_ne (tgt := 38) hx hb dL_asked_27 (by decide) (by omega) (fun c9 => False.elim (by omega)) (fun _ => ?_)
  refine lv_aload_n hx hb dL_asked_30 rfl (lv_at hl 0 rfl) ?_
  refine lv_iload_n hx hb dL_asked_31 rfl (lv_at hl 2 rfl) ?_
  refine pu_callV (v := mb G n (G rp)) (As := [.int (iI (x))]) (rest := []) CP_mv ⟨hx, hb, hml, hown, hts⟩ (c_ahead l D cI base st Z x0 x1 x2 x5 x6 x7 hn hF x hxr rp hrp h0 hG hs) (cwV 1 hts gL_asked_X0_ahead rfl rfl rfl (by decide +kernel) ⟨(Nat.le_of_ble_eq_true rfl), (Nat.le_of_ble_eq_true rfl)⟩) hCP (CP_rc hCP) rfl rfl hl.1 (Nat.le_of_ble_eq_true rfl) dL_asked_32 ⟨Nat.zero_le _, Nat.zero_le _⟩ ?_
  refine lv_goto (tgt := 56) hx hb dL_asked_35 (by decide) ?_
  exact ar_iret hx hb hr hlocks dL_asked_56 rfl
set_option maxHeartbeats 4000000 in
set_option maxRecDepth 100000 in
theorem q_at (l : Launch) (D : va_G) (cI : ClassId) (base st : Nat) (Z : Nat → Nat) (x0 x1 x2 x5 x6 x7 : Nat) {n came MV : Int} {F G SP RF RC : Int → Int} (lv : Int) (hlv : 0 ≤ lv ∧ lv < 4)  : ar_M l yL_asked wsL_asked ({ frames := 2, cells := 0, slots := 0, locals := 41 } : Room) [.ref x0, .int (iI (3)), .int (iI (lv))] (CP D cI base st Z x0 x1 x2 x5 x6 x7 n came MV F G SP RF RC) (RF lv) := by
  refine ar_of (cc := cL_asked) (maxL := 4) (ret := (some .int)) (own := RL) (hh := [(0, 56, 57, 31)]) (by decide) rfl rfl (Nat.le_of_ble_eq_true rfl) ?_
  intro p e s m below meth c ls B hCP hl
  obtain ⟨hx, hb, hml, hr, hts, hown, hlocks⟩ := B
  have hl : lv_has ls 4 [(0, .ref x0), (1, .int (iI (3))), (2, .int (iI (lv)))] := hl
  refine lv_iload_n hx hb dL_asked_0 rfl (lv_at hl 1 rfl) ?_
  refine pv_if_ne (tgt := 12) hx hb dL_asked_1 (by decide) (by omega) (fun _ => ?_) (fun c9 => False.elim (by omega))
  refine lv_iload_n hx hb dL_asked_12 rfl (lv_at hl 1 rfl) ?_
  refine pv_iconst hx hb dL_asked_13 ?_
  refine pv_icmp_ne (tgt := 25) hx hb dL_asked_14 (by decide) (by omega) (fun _ => ?_) (fun c9 => False.elim (by omega))
  refine lv_iload_n hx hb dL_asked_25 rfl (lv_at hl 1 rfl) ?_
  refine pv_iconst hx hb dL_asked_26 ?_
  refine pv_icmp_ne (tgt := 38) hx hb dL_asked_27 (by decide) (by omega) (fun _ => ?_) (fun c9 => False.elim (by omega))
  refine lv_iload_n hx hb dL_asked_38 rfl (lv_at hl 1 rfl) ?_
  refine pv_iconst hx hb dL_asked_39 ?_
  refine pv_icmp_ne (tgt := 51) hx hb dL_asked_40 (by decide) (by omega) (fun c9 => False.elim (by omega)) (fun _ => ?_)
  refine lv_aload_n hx hb dL_asked_43 rfl (lv_at hl 0 rfl) ?_
  refine lv_iload_n hx hb dL_asked_44 rfl (lv_at hl 2 rfl) ?_
  refine pu_callV (v := RF lv) (As := [.int (iI (lv))]) (rest := []) CP_mv ⟨hx, hb, hml, hown, hts⟩ (c_at l D cI base st Z x0 x1 x2 x5 x6 x7 lv hlv) (cwV 1 hts gL_asked_X0_at rfl rfl rfl (by decide +kernel) ⟨(Nat.le_of_ble_eq_true rfl), (Nat.le_of_ble_eq_true rfl)⟩) hCP (CP_rc hCP) rfl rfl hl.1 (Nat.le_of_ble_eq_true rfl) dL_asked_45 ⟨Nat.zero_le _, Nat.zero_le _⟩ ?_
  refine lv_goto (tgt := 56) hx hb dL_asked_48 (by decide) ?_
  exact ar_iret hx hb hr hlocks dL_asked_56 rfl
set_option maxHeartbeats 4000000 in
set_option maxRecDepth 100000 in
theorem q_read (l : Launch) (D : va_G) (cI : ClassId) (base st : Nat) (Z : Nat → Nat) (x0 x1 x2 x5 x6 x7 : Nat) {n came MV : Int} {F G SP RF RC : Int → Int} (lv : Int) (hlv : 0 ≤ lv ∧ lv < 4)  : ar_M l yL_asked wsL_asked ({ frames := 2, cells := 0, slots := 0, locals := 41 } : Room) [.ref x0, .int (iI (4)), .int (iI (lv))] (CP D cI base st Z x0 x1 x2 x5 x6 x7 n came MV F G SP RF RC) (RC lv) := by
  refine ar_of (cc := cL_asked) (maxL := 4) (ret := (some .int)) (own := RL) (hh := [(0, 56, 57, 31)]) (by decide) rfl rfl (Nat.le_of_ble_eq_true rfl) ?_
  intro p e s m below meth c ls B hCP hl
  obtain ⟨hx, hb, hml, hr, hts, hown, hlocks⟩ := B
  have hl : lv_has ls 4 [(0, .ref x0), (1, .int (iI (4))), (2, .int (iI (lv)))] := hl
  refine lv_iload_n hx hb dL_asked_0 rfl (lv_at hl 1 rfl) ?_
  refine pv_if_ne (tgt := 12) hx hb dL_asked_1 (by decide) (by omega) (fun _ => ?_) (fun c9 => False.elim (by omega))
  refine lv_iload_n hx hb dL_asked_12 rfl (lv_at hl 1 rfl) ?_
  refine pv_iconst hx hb dL_asked_13 ?_
  refine pv_icmp_ne (tgt := 25) hx hb dL_asked_14 (by decide) (by omega) (fun _ => ?_) (fun c9 => False.elim (by omega))
  refine lv_iload_n hx hb dL_asked_25 rfl (lv_at hl 1 rfl) ?_
  refine pv_iconst hx hb dL_asked_26 ?_
  refine pv_icmp_ne (tgt := 38) hx hb dL_asked_27 (by decide) (by omega) (fun _ => ?_) (fun c9 => False.elim (by omega))
  refine lv_iload_n hx hb dL_asked_38 rfl (lv_at hl 1 rfl) ?_
  refine pv_iconst hx hb dL_asked_39 ?_
  refine pv_icmp_ne (tgt := 51) hx hb dL_asked_40 (by decide) (by omega) (fun _ => ?_) (fun c9 => False.elim (by omega))
  refine lv_aload_n hx hb dL_asked_51 rfl (lv_at hl 0 rfl) ?_
  refine lv_iload_n hx hb dL_asked_52 rfl (lv_at hl 2 rfl) ?_
  refine pu_callV (v := RC lv) (As := [.int (iI (lv))]) (rest := []) CP_mv ⟨hx, hb, hml, hown, hts⟩ (c_read l D cI base st Z x0 x1 x2 x5 x6 x7 lv hlv) (cwV 1 hts gL_asked_X0_read rfl rfl rfl (by decide +kernel) ⟨(Nat.le_of_ble_eq_true rfl), (Nat.le_of_ble_eq_true rfl)⟩) hCP (CP_rc hCP) rfl rfl hl.1 (Nat.le_of_ble_eq_true rfl) dL_asked_53 ⟨Nat.zero_le _, Nat.zero_le _⟩ ?_
  exact ar_iret hx hb hr hlocks dL_asked_56 rfl
set_option maxHeartbeats 4000000 in
set_option maxRecDepth 100000 in
theorem d_putFirst (l : Launch) (D : va_G) (cI : ClassId) (base st : Nat) (Z : Nat → Nat) (x0 x1 x2 x5 x6 x7 : Nat) {n came MV : Int} {F G SP RF RC : Int → Int} (hn : 0 ≤ n ∧ n < 60) (hG : ∀ k : Int, 0 ≤ k → k < n → 0 ≤ G k ∧ G k ≤ 255) (hs : SD G n) (hcm : 0 ≤ came ∧ came < 200) (G2 : Int → Int) (dm : Int) (SP2 : Int → Int) (hPT : PT G n 0 SP G2 dm SP2) (o0 : Int) (o1 : Int) : wr_M l yL_done wsL_done ({ frames := 7, cells := 0, slots := 0, locals := 160 } : Room) [.ref x0, .int (iI (0)), .int (iI (o0)), .int (iI (o1))] (CP D cI base st Z x0 x1 x2 x5 x6 x7 n came MV F G SP RF RC) (came) (fun H => CW D cI base x0 x1 x2 x5 x6 x7 (n + 1) (came + 1) (MV + dm) (insF F 0 came) (G2) (SP2) (RF) (RC) H) (mC x0 x1 x2 x5 x6 x7) 0 0 := by
  refine wr_of (cc := cL_done) (maxL := 5) (ret := (some .int)) (own := RL) (hh := [(0, 57, 58, 29), (0, 57, 63, 31), (0, 57, 68, 33)]) (by decide) rfl rfl (Nat.le_of_ble_eq_true rfl) ?_
  intro p e s m below meth c ls B hTab hCP hl hS
  obtain ⟨hx, hb, hml, hr, hts, hown, hlocks⟩ := B
  have hl : lv_has ls 5 [(0, .ref x0), (1, .int (iI (0))), (2, .int (iI (o0))), (3, .int (iI (o1)))] := hl
  refine lv_iload_n hx hb dL_done_0 rfl (lv_at hl 1 rfl) ?_
  refine pv_if_ne (tgt := 11) hx hb dL_done_1 (by decide) (by omega) (fun c9 => False.elim (by omega)) (fun _ => ?_)
  refine lv_aload_n hx hb dL_done_4 rfl (lv_at hl 0 rfl) ?_
  refine mu_callV (As := []) (rest := []) CP_mv ⟨hx, hb, hml, hown, hts⟩ (c_putFirst l D cI base st Z x0 x1 x2 x5 x6 x7 hn hG hs hcm G2 dm SP2 hPT) (cwV 0 hts gL_done_X0_putFirst rfl rfl rfl (by decide +kernel) ⟨(Nat.le_of_ble_eq_true rfl), (Nat.le_of_ble_eq_true rfl)⟩) hCP (CP_rc hCP) rfl rfl hl.1 (Nat.le_of_ble_eq_true rfl) dL_done_5 ⟨Nat.zero_le _, Nat.zero_le _⟩ hS (fun q h => h) (fun H locs hP2 hz hk hS => ?_)
  refine lv_goto (tgt := 57) hx hb dL_done_8 (by decide) ?_
  exact wr_iret hx hb hr hlocks hS dL_done_57 rfl hP2
set_option maxHeartbeats 4000000 in
set_option maxRecDepth 100000 in
theorem d_putBehind (l : Launch) (D : va_G) (cI : ClassId) (base st : Nat) (Z : Nat → Nat) (x0 x1 x2 x5 x6 x7 : Nat) {n came MV : Int} {F G SP RF RC : Int → Int} (hn : 0 ≤ n ∧ n < 60) (hF : ∀ k : Int, 0 ≤ k → k < n → 0 ≤ F k ∧ F k < 200) (hG : ∀ k : Int, 0 ≤ k → k < n → 0 ≤ G k ∧ G k ≤ 255) (hs : SD G n) (hcm : 0 ≤ came ∧ came < 200) (x : Int) (hxr : (-2147483648 ≤ x ∧ x ≤ 2147483647)) (rp : Int) (hrp : PL F n x rp) (h0 : 0 ≤ rp) (G2 : Int → Int) (dm : Int) (SP2 : Int → Int) (hPT : PT G n (rp + 1) SP G2 dm SP2) (o0 : Int) : wr_M l yL_done wsL_done ({ frames := 7, cells := 0, slots := 0, locals := 162 } : Room) [.ref x0, .int (iI (1)), .int (iI (x)), .int (iI (o0))] (CP D cI base st Z x0 x1 x2 x5 x6 x7 n came MV F G SP RF RC) (came) (fun H => CW D cI base x0 x1 x2 x5 x6 x7 (n + 1) (came + 1) (MV + dm) (insF F (rp + 1) came) (G2) (SP2) (RF) (RC) H) (mC x0 x1 x2 x5 x6 x7) 0 0 := by
  refine wr_of (cc := cL_done) (maxL := 5) (ret := (some .int)) (own := RL) (hh := [(0, 57, 58, 29), (0, 57, 63, 31), (0, 57, 68, 33)]) (by decide) rfl rfl (Nat.le_of_ble_eq_true rfl) ?_
  intro p e s m below meth c ls B hTab hCP hl hS
  obtain ⟨hx, hb, hml, hr, hts, hown, hlocks⟩ := B
  have hl : lv_has ls 5 [(0, .ref x0), (1, .int (iI (1))), (2, .int (iI (x))), (3, .int (iI (o0)))] := hl
  refine lv_iload_n hx hb dL_done_0 rfl (lv_at hl 1 rfl) ?_
  refine pv_if_ne (tgt := 11) hx hb dL_done_1 (by decide) (by omega) (fun _ => ?_) (fun c9 => False.elim (by omega))
  refine lv_iload_n hx hb dL_done_11 rfl (lv_at hl 1 rfl) ?_
  refine pv_iconst hx hb dL_done_12 ?_
  refine pv_icmp_ne (tgt := 24) hx hb dL_done_13 (by decide) (by omega) (fun c9 => False.elim (by omega)) (fun _ => ?_)
  refine lv_aload_n hx hb dL_done_16 rfl (lv_at hl 0 rfl) ?_
  refine lv_iload_n hx hb dL_done_17 rfl (lv_at hl 2 rfl) ?_
  refine mu_callV (As := [.int (iI (x))]) (rest := []) CP_mv ⟨hx, hb, hml, hown, hts⟩ (c_putBehind l D cI base st Z x0 x1 x2 x5 x6 x7 hn hF hG hs hcm x hxr rp hrp h0 G2 dm SP2 hPT) (cwV 1 hts gL_done_X0_putBehind rfl rfl rfl (by decide +kernel) ⟨(Nat.le_of_ble_eq_true rfl), (Nat.le_of_ble_eq_true rfl)⟩) hCP (CP_rc hCP) rfl rfl hl.1 (Nat.le_of_ble_eq_true rfl) dL_done_18 ⟨Nat.zero_le _, Nat.zero_le _⟩ hS (fun q h => h) (fun H locs hP2 hz hk hS => ?_)
  refine lv_goto (tgt := 57) hx hb dL_done_21 (by decide) ?_
  exact wr_iret hx hb hr hlocks hS dL_done_57 rfl hP2
set_option maxHeartbeats 4000000 in
set_option maxRecDepth 100000 in
theorem d_takeOut (l : Launch) (D : va_G) (cI : ClassId) (base st : Nat) (Z : Nat → Nat) (x0 x1 x2 x5 x6 x7 : Nat) {n came MV : Int} {F G SP RF RC : Int → Int} (hn : 0 ≤ n ∧ n ≤ 60) (hF : ∀ k : Int, 0 ≤ k → k < n → 0 ≤ F k ∧ F k < 200) (hRF : ∀ k : Int, 0 ≤ k → k < 4 → -1 ≤ RF k ∧ RF k < 200) (x : Int) (hxr : (-2147483648 ≤ x ∧ x ≤ 2147483647)) (rp : Int) (hrp : PL F n x rp) (h0 : 0 ≤ rp) (o0 : Int) : wr_M l yL_done wsL_done ({ frames := 4, cells := 0, slots := 0, locals := 88 } : Room) [.ref x0, .int (iI (2)), .int (iI (x)), .int (iI (o0))] (CP D cI base st Z x0 x1 x2 x5 x6 x7 n came MV F G SP RF RC) (n - 1) (fun H => CW D cI base x0 x1 x2 x5 x6 x7 (n - 1) (came) (MV) (remF F rp) (remF G rp) (SP) (sendF RF x (fa F n (rp + 1))) (RC) H) (mC x0 x1 x2 x5 x6 x7) 0 0 := by
  refine wr_of (cc := cL_done) (maxL := 5) (ret := (some .int)) (own := RL) (hh := [(0, 57, 58, 29), (0, 57, 63, 31), (0, 57, 68, 33)]) (by decide) rfl rfl (Nat.le_of_ble_eq_true rfl) ?_
  intro p e s m below meth c ls B hTab hCP hl hS
  obtain ⟨hx, hb, hml, hr, hts, hown, hlocks⟩ := B
  have hl : lv_has ls 5 [(0, .ref x0), (1, .int (iI (2))), (2, .int (iI (x))), (3, .int (iI (o0)))] := hl
  refine lv_iload_n hx hb dL_done_0 rfl (lv_at hl 1 rfl) ?_
  refine pv_if_ne (tgt := 11) hx hb dL_done_1 (by decide) (by omega) (fun _ => ?_) (fun c9 => False.elim (by omega))
  refine lv_iload_n hx hb dL_done_11 rfl (lv_at hl 1 rfl) ?_
  refine pv_iconst hx hb dL_done_12 ?_
  refine pv_icmp_ne (tgt := 24) hx hb dL_done_13 (by decide) (by omega) (fun _ => ?_) (fun c9 => False.elim (by omega))
  refine lv_iload_n hx hb dL_done_24 rfl (lv_at hl 1 rfl) ?_
  refine pv_iconst hx hb dL_done_25 ?_
  refine pv_icmp_ne (tgt := 37) hx hb dL_done_26 (by decide) (by omega) (fun c9 => False.elim (by omega)) (fun _ => ?_)
  refine lv_aload_n hx hb dL_done_29 rfl (lv_at hl 0 rfl) ?_
  refine lv_iload_n hx hb dL_done_30 rfl (lv_at hl 2 rfl) ?_
  refine mu_callV (As := [.int (iI (x))]) (rest := []) CP_mv ⟨hx, hb, hml, hown, hts⟩ (c_takeOut l D cI base st Z x0 x1 x2 x5 x6 x7 hn hF hRF x hxr rp hrp h0) (cwV 1 hts gL_done_X0_takeOut rfl rfl rfl (by decide +kernel) ⟨(Nat.le_of_ble_eq_true rfl), (Nat.le_of_ble_eq_true rfl)⟩) hCP (CP_rc hCP) rfl rfl hl.1 (Nat.le_of_ble_eq_true rfl) dL_done_31 ⟨Nat.zero_le _, Nat.zero_le _⟩ hS (fun q h => h) (fun H locs hP2 hz hk hS => ?_)
  refine lv_goto (tgt := 57) hx hb dL_done_34 (by decide) ?_
  exact wr_iret hx hb hr hlocks hS dL_done_57 rfl hP2
set_option maxHeartbeats 4000000 in
set_option maxRecDepth 100000 in
theorem d_carry (l : Launch) (D : va_G) (cI : ClassId) (base st : Nat) (Z : Nat → Nat) (x0 x1 x2 x5 x6 x7 : Nat) {n came MV : Int} {F G SP RF RC : Int → Int} (hn : 0 ≤ n ∧ n ≤ 60) (hF : ∀ k : Int, 0 ≤ k → k < n → 0 ≤ F k ∧ F k < 200) (hG : ∀ k : Int, 0 ≤ k → k < n → 0 ≤ G k ∧ G k ≤ 255) (hs : SD G n) (x : Int) (hxr : (-2147483648 ≤ x ∧ x ≤ 2147483647)) (rp : Int) (hrp : PL F n x rp) (h0 : 0 ≤ rp) (y : Int) (hyr : (-2147483648 ≤ y ∧ y ≤ 2147483647)) (ro : Int) (hro : PL F n y ro) (h1 : 0 ≤ ro) (hne : x ≠ y) (rq : Int) (hrq : PL (remF F rp) (n - 1) y rq) (h2 : 0 ≤ rq) (hG1 : ∀ k : Int, 0 ≤ k → k < n - 1 → 0 ≤ remF G rp k ∧ remF G rp k ≤ 255) (hs1 : SD (remF G rp) (n - 1)) (hF1 : ∀ k : Int, 0 ≤ k → k < n - 1 → 0 ≤ remF F rp k ∧ remF F rp k < 200) (G2 : Int → Int) (dm : Int) (SP2 : Int → Int) (hPT : PT (remF G rp) (n - 1) (rq + 1) SP G2 dm SP2) (hF2 : ∀ k : Int, 0 ≤ k → k < n → 0 ≤ insF (remF F rp) (rq + 1) x k ∧ insF (remF F rp) (rq + 1) x k < 200) (hrz : PL (insF (remF F rp) (rq + 1) x) n x (rq + 1))  : wr_M l yL_done wsL_done ({ frames := 7, cells := 0, slots := 0, locals := 162 } : Room) [.ref x0, .int (iI (3)), .int (iI (x)), .int (iI (y))] (CP D cI base st Z x0 x1 x2 x5 x6 x7 n came MV F G SP RF RC) (G2 (rq + 1)) (fun H => CW D cI base x0 x1 x2 x5 x6 x7 (n - 1 + 1) (came) (MV + dm) (insF (remF F rp) (rq + 1) x) (G2) (SP2) (RF) (RC) H) (mC x0 x1 x2 x5 x6 x7) 0 0 := by
  refine wr_of (cc := cL_done) (maxL := 5) (ret := (some .int)) (own := RL) (hh := [(0, 57, 58, 29), (0, 57, 63, 31), (0, 57, 68, 33)]) (by decide) rfl rfl (Nat.le_of_ble_eq_true rfl) ?_
  intro p e s m below meth c ls B hTab hCP hl hS
  obtain ⟨hx, hb, hml, hr, hts, hown, hlocks⟩ := B
  have hl : lv_has ls 5 [(0, .ref x0), (1, .int (iI (3))), (2, .int (iI (x))), (3, .int (iI (y)))] := hl
  refine lv_iload_n hx hb dL_done_0 rfl (lv_at hl 1 rfl) ?_
  refine pv_if_ne (tgt := 11) hx hb dL_done_1 (by decide) (by omega) (fun _ => ?_) (fun c9 => False.elim (by omega))
  refine lv_iload_n hx hb dL_done_11 rfl (lv_at hl 1 rfl) ?_
  refine pv_iconst hx hb dL_done_12 ?_
  refine pv_icmp_ne (tgt := 24) hx hb dL_done_13 (by decide) (by omega) (fun _ => ?_) (fun c9 => False.elim (by omega))
  refine lv_iload_n hx hb dL_done_24 rfl (lv_at hl 1 rfl) ?_
  refine pv_iconst hx hb dL_done_25 ?_
  refine pv_icmp_ne (tgt := 37) hx hb dL_done_26 (by decide) (by omega) (fun _ => ?_) (fun c9 => False.elim (by omega))
  refine lv_iload_n hx hb dL_done_37 rfl (lv_at hl 1 rfl) ?_
  refine pv_iconst hx hb dL_done_38 ?_
  refine pv_icmp_ne (tgt := 51) hx hb dL_done_39 (by decide) (by omega) (fun c9 => False.elim (by omega)) (fun _ => ?_)
  refine lv_aload_n hx hb dL_done_42 rfl (lv_at hl 0 rfl) ?_
  refine lv_iload_n hx hb dL_done_43 rfl (lv_at hl 2 rfl) ?_
  refine lv_iload_n hx hb dL_done_44 rfl (lv_at hl 3 rfl) ?_
  refine mu_callV (As := [.int (iI (x)), .int (iI (y))]) (rest := []) CP_mv ⟨hx, hb, hml, hown, hts⟩ (c_carry l D cI base st Z x0 x1 x2 x5 x6 x7 hn hF hG hs x hxr rp hrp h0 y hyr ro hro h1 hne rq hrq h2 hG1 hs1 hF1 G2 dm SP2 hPT hF2 hrz) (cwV 2 hts gL_done_X0_carry rfl rfl rfl (by decide +kernel) ⟨(Nat.le_of_ble_eq_true rfl), (Nat.le_of_ble_eq_true rfl)⟩) hCP (CP_rc hCP) rfl rfl hl.1 (Nat.le_of_ble_eq_true rfl) dL_done_45 ⟨Nat.zero_le _, Nat.zero_le _⟩ hS (fun q h => h) (fun H locs hP2 hz hk hS => ?_)
  refine lv_goto (tgt := 57) hx hb dL_done_48 (by decide) ?_
  exact wr_iret hx hb hr hlocks hS dL_done_57 rfl hP2
set_option maxHeartbeats 4000000 in
set_option maxRecDepth 100000 in
theorem d_carry3 (l : Launch) (D : va_G) (cI : ClassId) (base st : Nat) (Z : Nat → Nat) (x0 x1 x2 x5 x6 x7 : Nat) {n came MV : Int} {F G SP RF RC : Int → Int} (hfl : l.stackTraces = false) (hn : 0 ≤ n ∧ n ≤ 60) (hF : ∀ k : Int, 0 ≤ k → k < n → 0 ≤ F k ∧ F k < 200) (x : Int) (hxr : (-2147483648 ≤ x ∧ x ≤ 2147483647)) (rp : Int) (hrp : PL F n x rp) (h0 : 0 ≤ rp)  : wr_M l yL_done wsL_done ({ frames := 7, cells := 1, slots := 6, locals := 115 } : Room) [.ref x0, .int (iI (3)), .int (iI (x)), .int (iI (x))] (DP D cI base st Z x0 x1 x2 x5 x6 x7 n came MV F G SP RF RC) (-60) (fun H => CW D cI base x0 x1 x2 x5 x6 x7 n came MV F G SP RF RC H) (mC x0 x1 x2 x5 x6 x7) 1 6 := by
  refine wr_of (cc := cL_done) (maxL := 5) (ret := (some .int)) (own := RL) (hh := [(0, 57, 58, 29), (0, 57, 63, 31), (0, 57, 68, 33)]) (by decide) rfl rfl (Nat.le_of_ble_eq_true rfl) ?_
  intro p e s m below meth c ls B hTab hCP hl hS
  obtain ⟨hx, hb, hml, hr, hts, hown, hlocks⟩ := B
  obtain ⟨hCP, hnc1, hnc2⟩ := hCP
  have hl : lv_has ls 5 [(0, .ref x0), (1, .int (iI (3))), (2, .int (iI (x))), (3, .int (iI (x)))] := hl
  refine lv_iload_n hx hb dL_done_0 rfl (lv_at hl 1 rfl) ?_
  refine pv_if_ne (tgt := 11) hx hb dL_done_1 (by decide) (by omega) (fun _ => ?_) (fun c9 => False.elim (by omega))
  refine lv_iload_n hx hb dL_done_11 rfl (lv_at hl 1 rfl) ?_
  refine pv_iconst hx hb dL_done_12 ?_
  refine pv_icmp_ne (tgt := 24) hx hb dL_done_13 (by decide) (by omega) (fun _ => ?_) (fun c9 => False.elim (by omega))
  refine lv_iload_n hx hb dL_done_24 rfl (lv_at hl 1 rfl) ?_
  refine pv_iconst hx hb dL_done_25 ?_
  refine pv_icmp_ne (tgt := 37) hx hb dL_done_26 (by decide) (by omega) (fun _ => ?_) (fun c9 => False.elim (by omega))
  refine lv_iload_n hx hb dL_done_37 rfl (lv_at hl 1 rfl) ?_
  refine pv_iconst hx hb dL_done_38 ?_
  refine pv_icmp_ne (tgt := 51) hx hb dL_done_39 (by decide) (by omega) (fun c9 => False.elim (by omega)) (fun _ => ?_)
  refine lv_aload_n hx hb dL_done_42 rfl (lv_at hl 0 rfl) ?_
  refine lv_iload_n hx hb dL_done_43 rfl (lv_at hl 2 rfl) ?_
  refine lv_iload_n hx hb dL_done_44 rfl (lv_at hl 3 rfl) ?_
  refine th_callV (As := [.int (iI (x)), .int (iI (x))]) (rest := []) CP_mv ⟨hx, hb, hml, hown, hts⟩ (t_carry3 l D cI base st Z x0 x1 x2 x5 x6 x7 hfl hn hF x hxr rp hrp h0) (cwV 2 hts gL_done_X0_carry rfl rfl rfl (by decide +kernel) ⟨(Nat.le_of_ble_eq_true rfl), (Nat.le_of_ble_eq_true rfl)⟩) hCP (CP_rc hCP) rfl rfl hl.1 (Nat.le_of_ble_eq_true rfl) dL_done_45 ⟨(Nat.le_of_ble_eq_true rfl), (Nat.le_of_ble_eq_true rfl)⟩ (fun H1 ce q9 h1 h2 h3 h4 h5 => ?_)
  obtain ⟨hK, hZL, hst9, hTW⟩ := id hCP.1
  obtain ⟨tw0, tw1, tw2, tw3, kw0, kw1, kw2, kd0, kd1, kd2, hU9, hN9⟩ := hTW
  refine vx_catch (own := RL) (name := "java/lang/IllegalArgumentException") hown [⟨0, 57, 58, 29⟩, ⟨0, 57, 63, 31⟩] ⟨0, 57, 68, 33⟩ [] (hTab.trans rfl) (fun z hz => ?_) rfl (by decide) (hts (.classLink RL 33 "java/lang/IllegalArgumentException") (by decide +kernel)) (va_Nw.use rfl kw2) h3 h4 h5 ?_
  · rcases List.mem_cons.mp hz with e9 | e9
    · rw [e9]; exact Or.inr ⟨by decide, "java/lang/IllegalStateException", hts (.classLink RL 29 "java/lang/IllegalStateException") (by decide +kernel), hnc1⟩
    · rw [List.mem_singleton.mp e9]; exact Or.inr ⟨by decide, "java/lang/IndexOutOfBoundsException", hts (.classLink RL 31 "java/lang/IndexOutOfBoundsException") (by decide +kernel), hnc2⟩
  show W p l e _ s m _ below meth c H1 [] (0 + 1) (0 + 6) _ (F0 m 68 ls [.ref q9])
  refine lv_astore (lv' := [(4, .ref q9), (0, .ref x0), (1, .int (iI (3))), (2, .int (iI (x))), (3, .int (iI (x)))]) hx hb dL_done_68 hl (by decide) rfl (fun ls hl => ?_)
  refine pv_bipush hx hb dL_done_70 (by decide +kernel) ?_
  have hk : ∀ q : Nat, q < s.heap.size → ¬ (fun _ => False) q → H1[q]? = s.heap[q]? := fun q a _ => h2 q a
  exact wr_iret hx hb hr hlocks ⟨h1, fun q a _ => h2 q a, fun _ h => by cases h⟩ dL_done_72 rfl (CW_fr hCP.2 hk (fun _ _ h => h))
set_option maxHeartbeats 4000000 in
set_option maxRecDepth 100000 in
theorem d_seat (l : Launch) (D : va_G) (cI : ClassId) (base st : Nat) (Z : Nat → Nat) (x0 x1 x2 x5 x6 x7 : Nat) {n came MV : Int} {F G SP RF RC : Int → Int} (hn : 0 ≤ n ∧ n ≤ 60) (hF : ∀ k : Int, 0 ≤ k → k < n → 0 ≤ F k ∧ F k < 200) (hRF : ∀ k : Int, 0 ≤ k → k < 4 → -1 ≤ RF k ∧ RF k < 200) (u : Int) (hu : 0 ≤ u ∧ u < 4) (x : Int) (hxr : (-2147483648 ≤ x ∧ x ≤ 2147483647)) (rp : Int) (hrp : PL F n x rp) (h0 : 0 ≤ rp)  : wr_M l yL_done wsL_done ({ frames := 3, cells := 0, slots := 0, locals := 66 } : Room) [.ref x0, .int (iI (4)), .int (iI (x)), .int (iI (u))] (CP D cI base st Z x0 x1 x2 x5 x6 x7 n came MV F G SP RF RC) (cn (fun k => decide (uI RF u x k = x)) 4) (fun H => CW D cI base x0 x1 x2 x5 x6 x7 (n) (came) (MV) (F) (G) (SP) (uI RF u x) (RC) H) (mC x0 x1 x2 x5 x6 x7) 0 0 := by
  refine wr_of (cc := cL_done) (maxL := 5) (ret := (some .int)) (own := RL) (hh := [(0, 57, 58, 29), (0, 57, 63, 31), (0, 57, 68, 33)]) (by decide) rfl rfl (Nat.le_of_ble_eq_true rfl) ?_
  intro p e s m below meth c ls B hTab hCP hl hS
  obtain ⟨hx, hb, hml, hr, hts, hown, hlocks⟩ := B
  have hl : lv_has ls 5 [(0, .ref x0), (1, .int (iI (4))), (2, .int (iI (x))), (3, .int (iI (u)))] := hl
  refine lv_iload_n hx hb dL_done_0 rfl (lv_at hl 1 rfl) ?_
  refine pv_if_ne (tgt := 11) hx hb dL_done_1 (by decide) (by omega) (fun _ => ?_) (fun c9 => False.elim (by omega))
  refine lv_iload_n hx hb dL_done_11 rfl (lv_at hl 1 rfl) ?_
  refine pv_iconst hx hb dL_done_12 ?_
  refine pv_icmp_ne (tgt := 24) hx hb dL_done_13 (by decide) (by omega) (fun _ => ?_) (fun c9 => False.elim (by omega))
  refine lv_iload_n hx hb dL_done_24 rfl (lv_at hl 1 rfl) ?_
  refine pv_iconst hx hb dL_done_25 ?_
  refine pv_icmp_ne (tgt := 37) hx hb dL_done_26 (by decide) (by omega) (fun _ => ?_) (fun c9 => False.elim (by omega))
  refine lv_iload_n hx hb dL_done_37 rfl (lv_at hl 1 rfl) ?_
  refine pv_iconst hx hb dL_done_38 ?_
  refine pv_icmp_ne (tgt := 51) hx hb dL_done_39 (by decide) (by omega) (fun _ => ?_) (fun c9 => False.elim (by omega))
  refine lv_aload_n hx hb dL_done_51 rfl (lv_at hl 0 rfl) ?_
  refine lv_iload_n hx hb dL_done_52 rfl (lv_at hl 3 rfl) ?_
  refine lv_iload_n hx hb dL_done_53 rfl (lv_at hl 2 rfl) ?_
  refine mu_callV (As := [.int (iI (u)), .int (iI (x))]) (rest := []) CP_mv ⟨hx, hb, hml, hown, hts⟩ (c_seat l D cI base st Z x0 x1 x2 x5 x6 x7 hn hF hRF u hu x hxr rp hrp h0) (cwV 2 hts gL_done_X0_seat rfl rfl rfl (by decide +kernel) ⟨(Nat.le_of_ble_eq_true rfl), (Nat.le_of_ble_eq_true rfl)⟩) hCP (CP_rc hCP) rfl rfl hl.1 (Nat.le_of_ble_eq_true rfl) dL_done_54 ⟨Nat.zero_le _, Nat.zero_le _⟩ hS (fun q h => h) (fun H locs hP2 hz hk hS => ?_)
  exact wr_iret hx hb hr hlocks hS dL_done_57 rfl hP2
