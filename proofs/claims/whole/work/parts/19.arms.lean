theorem lg_cmp_s (x : Int64) : lg_cmp x x = iI 0 := by
  rw [iI_0]
  simp [lg_cmp]
theorem va_S_nil {A : Nat → Prop} {H0 H : Heap} {locs : List Loc} (h : va_S A H0 H locs) : va_S A H0 H [] := ⟨h.1, h.2.1, fun _ h => by cases h⟩
section LAW0
variable {p : Program} {l : Launch} {e : Env} {R : Room} {s : State} {m : MethodId} {args : Array Value} {below : List Frame} {meth : Method} {c : Code} {H : Heap} {locs : List Loc} {cells slots : Nat} {Q : State → Prop}
variable {cc : ByteArray} {pc : Nat} {ls : Array Slot} {rest : List Value}
theorem pv_same (hx : p.tables.exec = Jvm.exec) (hb : c.code = cc) {x : Int32} {off : Int} {tgt : Nat} (d : decode cc pc = .ok (.if_icmp .eq off, 3)) (ht : (pc : Int) + off = (tgt : Int)) (kt : W p l e R s m args below meth c H locs cells slots Q (F0 m tgt ls rest)) : W p l e R s m args below meth c H locs cells slots Q (F0 m pc ls (.int x :: .int x :: rest)) :=
  lv_icmp_eq hx hb d ht (fun _ => kt) (fun h => absurd rfl h)
theorem pv_sld {b L : Nat} {xs : Nat → Int32} {A : Nat → Prop} {H0 : Heap} (hx : p.tables.exec = Jvm.exec) (hb : c.code = cc) (hX : va_X b L xs s H0) (hbl : b < H0.size) (hbA : ¬ A b) (hS : va_S A H0 H locs) {i v : Int} (hi : 0 ≤ i ∧ i < L) (hn : L ≤ 2147483647) (hv : xs i.toNat = iI v) (d : decode cc pc = .ok (.iaload, 1))
    (kk : W p l e R s m args below meth c H locs cells slots Q (F0 m (pc + 1) ls (.int (iI v) :: rest))) : W p l e R s m args below meth c H locs cells slots Q (F0 m pc ls (.int (iI i) :: .ref b :: rest)) := by
  refine va_sld hx hb hX hbl hbA hS (iI_in hi hn) d ?_
  rw [iI_N ⟨hi.1, by omega⟩, hv]
  exact kk
end LAW0
set_option maxHeartbeats 4000000 in
set_option maxRecDepth 100000 in
theorem arm_0 {p : Program} {e : Env} {s : State} {m : MethodId} {below : List Frame} {meth : Method} {c : Code} (l : Launch) (hfl : l.stackTraces = false) {b L : Nat} {xs : Nat → Int32} (hL : L ≤ 1536) (C0 : lw_At p s m meth c b L xs)
    {D : va_G} {cI cZ cJ : ClassId} {st : Nat} {Z : Nat → Nat} (hSW0 : SW D cI cZ s.heap.size st Z s s.heap) (hKJ : va_K D vwCl [(cJ, .long)] s) (hnc1 : va_Nc "java/lang/IllegalStateException" "java/lang/IndexOutOfBoundsException" s) (hnc2 : va_Nc "java/lang/IllegalArgumentException" "java/lang/IndexOutOfBoundsException" s)
    {x0 x1 x2 x5 x6 x7 y0 y1 y2 y3 y6 y7 y8 o : Nat} (hxy : ∀ q, mC x0 x1 x2 x5 x6 x7 q → ¬ mM y0 y1 y2 y3 y6 y7 y8 q) (hox : ¬ mC x0 x1 x2 x5 x6 x7 o) (hoy : ¬ mM y0 y1 y2 y3 y6 y7 y8 o) (hob : s.heap.size ≤ o)
    {n came MV th : Int} {F G SP RF RC : Int → Int} (hI : INV n came F G RF) {H : Heap} (hC : CW D cI s.heap.size x0 x1 x2 x5 x6 x7 n came MV F G SP RF RC H) (hM : MA D cI cZ s.heap.size y0 y1 y2 y3 y6 y7 y8 n came MV th F G SP RF RC H) {lf : Nat → Int64} (hO : OC D cJ o lf H) (hS : va_S (fun q : Nat => s.heap.size ≤ q) s.heap H []) {i : Int} (hi : 0 ≤ i ∧ i + 2 < L) {ls : Array Slot} (hl : lv_has ls 7 [(0, .ref b), (1, .ref x0), (2, .ref y0), (3, .ref o), (4, .int (iI i))]) {cells slots : Nat} (hc : cells + 1 ≤ 601024) (hs9 : slots + 6 ≤ 7293034)
    (K : ∀ (n came MV th : Int) (F G SP RF RC : Int → Int) (H : Heap) (lf : Nat → Int64) (ls : Array Slot), INV n came F G RF → CW D cI s.heap.size x0 x1 x2 x5 x6 x7 n came MV F G SP RF RC H → MA D cI cZ s.heap.size y0 y1 y2 y3 y6 y7 y8 n came MV th F G SP RF RC H → OC D cJ o lf H → va_S (fun q : Nat => s.heap.size ≤ q) s.heap H [] → lv_has ls 7 [(0, .ref b), (1, .ref x0), (2, .ref y0), (3, .ref o), (4, .int (iI i))] → W p l e room_1 s m #[Value.ref b] below meth c H [] (cells + 1) (slots + 6) (lw_Z below #[Value.ref b] s) (F0 m 1234 ls [])) : W p l e room_1 s m #[Value.ref b] below meth c H [] (cells) (slots) (lw_Z below #[Value.ref b] s) (F0 m 144 ls []) := by
  obtain ⟨hx, hb, hr, hml, hown, hts0, hX, hbl, hlocks, hgv⟩ := id C0
  have hts : ∀ w ∈ wsL_law, w.before #[Value.ref b] s = true := fun w h => hts0 w (wsL_law_in w h)
  have hbA : ¬ (fun q : Nat => s.heap.size ≤ q) b := Nat.not_le.mpr hbl
  have hSW := hSW0.keep (fun q h => hS.2.1 q h (Nat.not_le.mpr h))
  obtain ⟨hn, hcm, hF, hfc, hFi, hG, hs, hRI0⟩ := id hI
  have hRF := INV_RF hI
  by_cases hfr : came < 200 ∧ n < 60
  · skip
    obtain ⟨G2, dm, SP2, hPT⟩ := PT_ex G n 0 SP
    refine lv_aload_n hx hb dL_law_144 rfl (lv_at hl 1 rfl) ?_
    refine lv_aload_n hx hb dL_law_145 rfl (lv_at hl 3 rfl) ?_
    refine wr_call (As := [.ref x0, .ref o]) (rest := []) WP_mv ⟨hx, hb, hml, hown, hts⟩ (w_putFirst l D cI cZ cJ s.heap.size st Z x0 x1 x2 x5 x6 x7 o ⟨hn.1, hfr.2⟩ hG hs ⟨hcm.1, hfr.1⟩ G2 dm SP2 hPT) (vx_cwSW 2 hts gL_law_L_putFirst rfl rfl rfl (by decide +kernel) ⟨(Nat.le_of_ble_eq_true rfl), (Nat.le_of_ble_eq_true rfl)⟩) ⟨⟨hSW, hC⟩, hKJ, ⟨lf, hO⟩, hox, hnc1, hnc2⟩ rfl rfl hl.1 (Nat.le_of_ble_eq_true rfl) dL_law_146 ⟨by show cells + 0 ≤ 601024; omega, by show slots + 0 ≤ 7293034; omega⟩ hS (fun q h => by rcases h with h | h; exact CW_b hC q h; rw [h]; exact hob) (fun H locs hP2 hz hk hS => ?_)
    obtain ⟨hC, lf, hv9, hO⟩ := hP2
    have hM := MA_fr hM hk (fun q h z => by rcases z with z | z; exact hxy q z h; exact hoy (by rw [← z]; exact h))
    refine va_forget (fun q hq => hS.2.2 q hq) ?_
    have hS := va_S_nil hS
    have hSW := hSW0.keep (fun q h => hS.2.1 q h (Nat.not_le.mpr h))
    refine W.widen (k := cells + 1) (n := slots + 6) (by omega) (by omega) ?_
    refine lv_istore (lv' := [(5, .int (iI 0)), (0, .ref b), (1, .ref x0), (2, .ref y0), (3, .ref o), (4, .int (iI i))]) hx hb dL_law_149 hl (by decide) rfl (fun ls hl => ?_)
    refine lv_aload_n hx hb dL_law_151 rfl (lv_at hl 3 rfl) ?_
    refine mu_callV (As := []) (rest := []) AP_mv ⟨hx, hb, hml, hown, hts⟩ (c_M_putFirst l D cI cZ s.heap.size st Z y0 y1 y2 y3 y6 y7 y8 ⟨hn.1, hfr.2⟩ hF hFi hG hs ⟨hcm.1, hfr.1⟩ G2 dm SP2 hPT) (cwV 0 hts gL_law_X1_putFirst rfl rfl rfl (by decide +kernel) ⟨(Nat.le_of_ble_eq_true rfl), (Nat.le_of_ble_eq_true rfl)⟩) ⟨hSW, hM⟩ (AP_rc ⟨hSW, hM⟩) rfl rfl hl.1 (Nat.le_of_ble_eq_true rfl) dL_law_152 ⟨by show cells + 1 + 0 ≤ 601024; omega, by show slots + 6 + 0 ≤ 7293034; omega⟩ hS (MA_b hM) (fun H locs hP2 hz hk hS => ?_)
    have hC := CW_fr hC hk (fun q h z => hxy q h z)
    have hO := OC_fr hO hk hoy
    have hM := hP2
    try dsimp only at hM
    refine va_forget (fun q hq => hS.2.2 q hq) ?_
    have hS := va_S_nil hS
    have hSW := hSW0.keep (fun q h => hS.2.1 q h (Nat.not_le.mpr h))
    refine lv_istore (lv' := [(6, .int (iI (came))), (5, .int (iI 0)), (0, .ref b), (1, .ref x0), (2, .ref y0), (3, .ref o), (4, .int (iI i))]) hx hb dL_law_155 hl (by decide) rfl (fun ls hl => ?_)
    refine lv_aload_n hx hb dL_law_157 rfl (lv_at hl 4 rfl) ?_
    refine pu_callV (v := 0) (As := []) (rest := []) AP_mv ⟨hx, hb, hml, hown, hts⟩ (c_M_thrown l D cI cZ s.heap.size st Z y0 y1 y2 y3 y6 y7 y8) (cwV 0 hts gL_law_X1_thrown rfl rfl rfl (by decide +kernel) ⟨(Nat.le_of_ble_eq_true rfl), (Nat.le_of_ble_eq_true rfl)⟩) ⟨hSW, hM⟩ (AP_rc ⟨hSW, hM⟩) rfl rfl hl.1 (Nat.le_of_ble_eq_true rfl) dL_law_158 ⟨by show cells + 1 + 0 ≤ 601024; omega, by show slots + 6 + 0 ≤ 7293034; omega⟩ ?_
    refine lv_iload hx hb dL_law_161 (lv_at hl 1 rfl) ?_
    refine pv_same (tgt := 168) hx hb dL_law_163 (by decide) ?_
    refine lv_iload hx hb dL_law_168 (lv_at hl 1 rfl) ?_
    refine pv_if_ne (tgt := 185) hx hb dL_law_170 (by decide) (by omega) (fun c9 => ?_) (fun c9 => ?_)
    · exact absurd rfl c9
    refine lv_aload_n hx hb dL_law_173 rfl (lv_at hl 5 rfl) ?_
    refine pv_iconst hx hb dL_law_174 ?_
    refine pv_lald hx hb hKJ hO hv9 dL_law_175 ?_
    refine lv_iload hx hb dL_law_176 (lv_at hl 0 rfl) ?_
    refine lv_i2l (v := (iI (came)).toInt64) hx hb dL_law_178 rfl ?_
    refine W.lcmp hx hb dL_law_179 ?_
    rw [lg_cmp_s]
    refine pv_if_eq (tgt := 185) hx hb dL_law_180 (by decide) (by omega) (fun c9 => ?_) (fun c9 => absurd rfl c9)
    refine lv_goto (tgt := 1234) hx hb dL_law_185 (by decide) ?_
    exact K _ _ _ _ _ _ _ _ _ _ _ _ (INV_put hI hfr.2 hfr.1 (by omega) hPT) hC hM hO hS (lv_sub hl [2, 3, 4, 5, 6] rfl)
  · skip
    refine lv_aload_n hx hb dL_law_144 rfl (lv_at hl 1 rfl) ?_
    refine lv_aload_n hx hb dL_law_145 rfl (lv_at hl 3 rfl) ?_
    refine wr_call (As := [.ref x0, .ref o]) (rest := []) WP_mv ⟨hx, hb, hml, hown, hts⟩ (v_putFirst l D cI cZ cJ s.heap.size st Z x0 x1 x2 x5 x6 x7 o hfl hn hcm hfr) (vx_cwSW 2 hts gL_law_L_putFirst rfl rfl rfl (by decide +kernel) ⟨(Nat.le_of_ble_eq_true rfl), (Nat.le_of_ble_eq_true rfl)⟩) ⟨⟨hSW, hC⟩, hKJ, ⟨lf, hO⟩, hox, hnc1, hnc2⟩ rfl rfl hl.1 (Nat.le_of_ble_eq_true rfl) dL_law_146 ⟨by show cells + 1 ≤ 601024; omega, by show slots + 6 ≤ 7293034; omega⟩ hS (fun q h => by rcases h with h | h; exact CW_b hC q h; rw [h]; exact hob) (fun H locs hP2 hz hk hS => ?_)
    obtain ⟨hC, lf, hO⟩ := hP2
    have hM := MA_fr hM hk (fun q h z => by rcases z with z | z; exact hxy q z h; exact hoy (by rw [← z]; exact h))
    refine va_forget (fun q hq => hS.2.2 q hq) ?_
    have hS := va_S_nil hS
    have hSW := hSW0.keep (fun q h => hS.2.1 q h (Nat.not_le.mpr h))
    refine W.widen (k := cells + 1) (n := slots + 6) (Nat.le_refl _) (Nat.le_refl _) ?_
    refine lv_istore (lv' := [(5, .int (iI 1)), (0, .ref b), (1, .ref x0), (2, .ref y0), (3, .ref o), (4, .int (iI i))]) hx hb dL_law_149 hl (by decide) rfl (fun ls hl => ?_)
    refine lv_aload_n hx hb dL_law_151 rfl (lv_at hl 3 rfl) ?_
    refine mu_callV (As := []) (rest := []) AP_mv ⟨hx, hb, hml, hown, hts⟩ (d_M_putFirst l D cI cZ s.heap.size st Z y0 y1 y2 y3 y6 y7 y8 hn hcm hfr) (cwV 0 hts gL_law_X1_putFirst rfl rfl rfl (by decide +kernel) ⟨(Nat.le_of_ble_eq_true rfl), (Nat.le_of_ble_eq_true rfl)⟩) ⟨hSW, hM⟩ (AP_rc ⟨hSW, hM⟩) rfl rfl hl.1 (Nat.le_of_ble_eq_true rfl) dL_law_152 ⟨by show cells + 1 + 0 ≤ 601024; omega, by show slots + 6 + 0 ≤ 7293034; omega⟩ hS (MA_b hM) (fun H locs hP2 hz hk hS => ?_)
    have hC := CW_fr hC hk (fun q h z => hxy q h z)
    have hO := OC_fr hO hk hoy
    have hM := hP2
    try dsimp only at hM
    refine va_forget (fun q hq => hS.2.2 q hq) ?_
    have hS := va_S_nil hS
    have hSW := hSW0.keep (fun q h => hS.2.1 q h (Nat.not_le.mpr h))
    refine lv_istore (lv' := [(6, .int (iI (0))), (5, .int (iI 1)), (0, .ref b), (1, .ref x0), (2, .ref y0), (3, .ref o), (4, .int (iI i))]) hx hb dL_law_155 hl (by decide) rfl (fun ls hl => ?_)
    refine lv_aload_n hx hb dL_law_157 rfl (lv_at hl 4 rfl) ?_
    refine pu_callV (v := 1) (As := []) (rest := []) AP_mv ⟨hx, hb, hml, hown, hts⟩ (c_M_thrown l D cI cZ s.heap.size st Z y0 y1 y2 y3 y6 y7 y8) (cwV 0 hts gL_law_X1_thrown rfl rfl rfl (by decide +kernel) ⟨(Nat.le_of_ble_eq_true rfl), (Nat.le_of_ble_eq_true rfl)⟩) ⟨hSW, hM⟩ (AP_rc ⟨hSW, hM⟩) rfl rfl hl.1 (Nat.le_of_ble_eq_true rfl) dL_law_158 ⟨by show cells + 1 + 0 ≤ 601024; omega, by show slots + 6 + 0 ≤ 7293034; omega⟩ ?_
    refine lv_iload hx hb dL_law_161 (lv_at hl 1 rfl) ?_
    refine pv_same (tgt := 168) hx hb dL_law_163 (by decide) ?_
    refine lv_iload hx hb dL_law_168 (lv_at hl 1 rfl) ?_
    refine pv_if_ne (tgt := 185) hx hb dL_law_170 (by decide) (by omega) (fun c9 => ?_) (fun c9 => ?_)
    rotate_left
    · exact absurd c9 (by omega)
    refine lv_goto (tgt := 1234) hx hb dL_law_185 (by decide) ?_
    exact K _ _ _ _ _ _ _ _ _ _ _ _ hI hC hM hO hS (lv_sub hl [2, 3, 4, 5, 6] rfl)
set_option maxHeartbeats 4000000 in
set_option maxRecDepth 100000 in
theorem arm_1 {p : Program} {e : Env} {s : State} {m : MethodId} {below : List Frame} {meth : Method} {c : Code} (l : Launch) (hfl : l.stackTraces = false) {b L : Nat} {xs : Nat → Int32} (hL : L ≤ 1536) (C0 : lw_At p s m meth c b L xs)
    {D : va_G} {cI cZ cJ : ClassId} {st : Nat} {Z : Nat → Nat} (hSW0 : SW D cI cZ s.heap.size st Z s s.heap) (hKJ : va_K D vwCl [(cJ, .long)] s) (hnc1 : va_Nc "java/lang/IllegalStateException" "java/lang/IndexOutOfBoundsException" s) (hnc2 : va_Nc "java/lang/IllegalArgumentException" "java/lang/IndexOutOfBoundsException" s)
    {x0 x1 x2 x5 x6 x7 y0 y1 y2 y3 y6 y7 y8 o : Nat} (hxy : ∀ q, mC x0 x1 x2 x5 x6 x7 q → ¬ mM y0 y1 y2 y3 y6 y7 y8 q) (hox : ¬ mC x0 x1 x2 x5 x6 x7 o) (hoy : ¬ mM y0 y1 y2 y3 y6 y7 y8 o) (hob : s.heap.size ≤ o)
    {n came MV th : Int} {F G SP RF RC : Int → Int} (hI : INV n came F G RF) {H : Heap} (hC : CW D cI s.heap.size x0 x1 x2 x5 x6 x7 n came MV F G SP RF RC H) (hM : MA D cI cZ s.heap.size y0 y1 y2 y3 y6 y7 y8 n came MV th F G SP RF RC H) {lf : Nat → Int64} (hO : OC D cJ o lf H) (hS : va_S (fun q : Nat => s.heap.size ≤ q) s.heap H []) {i : Int} (hi : 0 ≤ i ∧ i + 2 < L) {ls : Array Slot} (hl : lv_has ls 7 [(0, .ref b), (1, .ref x0), (2, .ref y0), (3, .ref o), (4, .int (iI i))]) {cells slots : Nat} (hc : cells + 1 ≤ 601024) (hs9 : slots + 6 ≤ 7293034)
    (K : ∀ (n came MV th : Int) (F G SP RF RC : Int → Int) (H : Heap) (lf : Nat → Int64) (ls : Array Slot), INV n came F G RF → CW D cI s.heap.size x0 x1 x2 x5 x6 x7 n came MV F G SP RF RC H → MA D cI cZ s.heap.size y0 y1 y2 y3 y6 y7 y8 n came MV th F G SP RF RC H → OC D cJ o lf H → va_S (fun q : Nat => s.heap.size ≤ q) s.heap H [] → lv_has ls 7 [(0, .ref b), (1, .ref x0), (2, .ref y0), (3, .ref o), (4, .int (iI i))] → W p l e room_1 s m #[Value.ref b] below meth c H [] (cells + 1) (slots + 6) (lw_Z below #[Value.ref b] s) (F0 m 1234 ls [])) : W p l e room_1 s m #[Value.ref b] below meth c H [] (cells) (slots) (lw_Z below #[Value.ref b] s) (F0 m 188 ls []) := by
  obtain ⟨hx, hb, hr, hml, hown, hts0, hX, hbl, hlocks, hgv⟩ := id C0
  have hts : ∀ w ∈ wsL_law, w.before #[Value.ref b] s = true := fun w h => hts0 w (wsL_law_in w h)
  have hbA : ¬ (fun q : Nat => s.heap.size ≤ q) b := Nat.not_le.mpr hbl
  have hSW := hSW0.keep (fun q h => hS.2.1 q h (Nat.not_le.mpr h))
  obtain ⟨hn, hcm, hF, hfc, hFi, hG, hs, hRI0⟩ := id hI
  have hRF := INV_RF hI
  obtain ⟨u, hur, hu⟩ := iI_of (xs (i + 1).toNat)
  by_cases h0 : 0 ≤ pl F n u
  · skip
    by_cases hfr : came < 200 ∧ n < 60
    · skip
      have hrp := pl_PL (F := F) hn.1 u
      obtain ⟨hp1, hp2, hp3⟩ := PL_p hrp h0
      obtain ⟨G2, dm, SP2, hPT⟩ := PT_ex G n (pl F n u + 1) SP
      refine lv_aload_n hx hb dL_law_188 rfl (lv_at hl 1 rfl) ?_
      refine lv_aload_n hx hb dL_law_189 rfl (lv_at hl 0 rfl) ?_
      refine lv_iload hx hb dL_law_190 (lv_at hl 4 rfl) ?_
      refine pv_iconst hx hb dL_law_192 ?_
      refine pv_iadd hx hb dL_law_193 ?_
      refine pv_sld (v := u) hx hb hX hbl hbA hS (by omega) (by omega) hu dL_law_194 ?_
      refine lv_aload_n hx hb dL_law_195 rfl (lv_at hl 3 rfl) ?_
      refine wr_call (As := [.ref x0, .int (iI u), .ref o]) (rest := []) WP_mv ⟨hx, hb, hml, hown, hts⟩ (w_putBehind l D cI cZ cJ s.heap.size st Z x0 x1 x2 x5 x6 x7 o ⟨hn.1, hfr.2⟩ hF hG hs ⟨hcm.1, hfr.1⟩ u hur (pl F n u) hrp h0 G2 dm SP2 hPT) (vx_cwSW 3 hts gL_law_L_putBehind rfl rfl rfl (by decide +kernel) ⟨(Nat.le_of_ble_eq_true rfl), (Nat.le_of_ble_eq_true rfl)⟩) ⟨⟨hSW, hC⟩, hKJ, ⟨lf, hO⟩, hox, hnc1, hnc2⟩ rfl rfl hl.1 (Nat.le_of_ble_eq_true rfl) dL_law_196 ⟨by show cells + 0 ≤ 601024; omega, by show slots + 0 ≤ 7293034; omega⟩ hS (fun q h => by rcases h with h | h; exact CW_b hC q h; rw [h]; exact hob) (fun H locs hP2 hz hk hS => ?_)
      obtain ⟨hC, lf, hv9, hO⟩ := hP2
      have hM := MA_fr hM hk (fun q h z => by rcases z with z | z; exact hxy q z h; exact hoy (by rw [← z]; exact h))
      refine va_forget (fun q hq => hS.2.2 q hq) ?_
      have hS := va_S_nil hS
      have hSW := hSW0.keep (fun q h => hS.2.1 q h (Nat.not_le.mpr h))
      refine W.widen (k := cells + 1) (n := slots + 6) (by omega) (by omega) ?_
      refine lv_istore (lv' := [(5, .int (iI 0)), (0, .ref b), (1, .ref x0), (2, .ref y0), (3, .ref o), (4, .int (iI i))]) hx hb dL_law_199 hl (by decide) rfl (fun ls hl => ?_)
      refine lv_aload_n hx hb dL_law_201 rfl (lv_at hl 3 rfl) ?_
      refine lv_aload_n hx hb dL_law_202 rfl (lv_at hl 1 rfl) ?_
      refine lv_iload hx hb dL_law_203 (lv_at hl 5 rfl) ?_
      refine pv_iconst hx hb dL_law_205 ?_
      refine pv_iadd hx hb dL_law_206 ?_
      refine pv_sld (v := u) hx hb hX hbl hbA hS (by omega) (by omega) hu dL_law_207 ?_
      refine mu_callV (As := [.int (iI u)]) (rest := []) AP_mv ⟨hx, hb, hml, hown, hts⟩ (c_M_putBehind l D cI cZ s.heap.size st Z y0 y1 y2 y3 y6 y7 y8 ⟨hn.1, hfr.2⟩ hF hFi hG hs ⟨hcm.1, hfr.1⟩ u hur (pl F n u) hrp h0 G2 dm SP2 hPT) (cwV 1 hts gL_law_X1_putBehind rfl rfl rfl (by decide +kernel) ⟨(Nat.le_of_ble_eq_true rfl), (Nat.le_of_ble_eq_true rfl)⟩) ⟨hSW, hM⟩ (AP_rc ⟨hSW, hM⟩) rfl rfl hl.1 (Nat.le_of_ble_eq_true rfl) dL_law_208 ⟨by show cells + 1 + 0 ≤ 601024; omega, by show slots + 6 + 0 ≤ 7293034; omega⟩ hS (MA_b hM) (fun H locs hP2 hz hk hS => ?_)
      have hC := CW_fr hC hk (fun q h z => hxy q h z)
      have hO := OC_fr hO hk hoy
      have hM := hP2
      try dsimp only at hM
      refine va_forget (fun q hq => hS.2.2 q hq) ?_
      have hS := va_S_nil hS
      have hSW := hSW0.keep (fun q h => hS.2.1 q h (Nat.not_le.mpr h))
      refine lv_istore (lv' := [(6, .int (iI (came))), (5, .int (iI 0)), (0, .ref b), (1, .ref x0), (2, .ref y0), (3, .ref o), (4, .int (iI i))]) hx hb dL_law_211 hl (by decide) rfl (fun ls hl => ?_)
      refine lv_aload_n hx hb dL_law_213 rfl (lv_at hl 4 rfl) ?_
      refine pu_callV (v := 0) (As := []) (rest := []) AP_mv ⟨hx, hb, hml, hown, hts⟩ (c_M_thrown l D cI cZ s.heap.size st Z y0 y1 y2 y3 y6 y7 y8) (cwV 0 hts gL_law_X1_thrown rfl rfl rfl (by decide +kernel) ⟨(Nat.le_of_ble_eq_true rfl), (Nat.le_of_ble_eq_true rfl)⟩) ⟨hSW, hM⟩ (AP_rc ⟨hSW, hM⟩) rfl rfl hl.1 (Nat.le_of_ble_eq_true rfl) dL_law_214 ⟨by show cells + 1 + 0 ≤ 601024; omega, by show slots + 6 + 0 ≤ 7293034; omega⟩ ?_
      refine lv_iload hx hb dL_law_217 (lv_at hl 1 rfl) ?_
      refine pv_same (tgt := 224) hx hb dL_law_219 (by decide) ?_
      refine lv_iload hx hb dL_law_224 (lv_at hl 1 rfl) ?_
      refine pv_if_ne (tgt := 241) hx hb dL_law_226 (by decide) (by omega) (fun c9 => ?_) (fun c9 => ?_)
      · exact absurd rfl c9
      refine lv_aload_n hx hb dL_law_229 rfl (lv_at hl 5 rfl) ?_
      refine pv_iconst hx hb dL_law_230 ?_
      refine pv_lald hx hb hKJ hO hv9 dL_law_231 ?_
      refine lv_iload hx hb dL_law_232 (lv_at hl 0 rfl) ?_
      refine lv_i2l (v := (iI (came)).toInt64) hx hb dL_law_234 rfl ?_
      refine W.lcmp hx hb dL_law_235 ?_
      rw [lg_cmp_s]
      refine pv_if_eq (tgt := 241) hx hb dL_law_236 (by decide) (by omega) (fun c9 => ?_) (fun c9 => absurd rfl c9)
      refine lv_goto (tgt := 1234) hx hb dL_law_241 (by decide) ?_
      exact K _ _ _ _ _ _ _ _ _ _ _ _ (INV_put hI hfr.2 hfr.1 (by omega) hPT) hC hM hO hS (lv_sub hl [2, 3, 4, 5, 6] rfl)
    · skip
      have hrp := pl_PL (F := F) hn.1 u
      obtain ⟨hp1, hp2, hp3⟩ := PL_p hrp h0
      refine lv_aload_n hx hb dL_law_188 rfl (lv_at hl 1 rfl) ?_
      refine lv_aload_n hx hb dL_law_189 rfl (lv_at hl 0 rfl) ?_
      refine lv_iload hx hb dL_law_190 (lv_at hl 4 rfl) ?_
      refine pv_iconst hx hb dL_law_192 ?_
      refine pv_iadd hx hb dL_law_193 ?_
      refine pv_sld (v := u) hx hb hX hbl hbA hS (by omega) (by omega) hu dL_law_194 ?_
      refine lv_aload_n hx hb dL_law_195 rfl (lv_at hl 3 rfl) ?_
      refine wr_call (As := [.ref x0, .int (iI u), .ref o]) (rest := []) WP_mv ⟨hx, hb, hml, hown, hts⟩ (v_putBehind2 l D cI cZ cJ s.heap.size st Z x0 x1 x2 x5 x6 x7 o hfl hn hF hcm u hur (pl F n u) hrp h0 hfr) (vx_cwSW 3 hts gL_law_L_putBehind rfl rfl rfl (by decide +kernel) ⟨(Nat.le_of_ble_eq_true rfl), (Nat.le_of_ble_eq_true rfl)⟩) ⟨⟨hSW, hC⟩, hKJ, ⟨lf, hO⟩, hox, hnc1, hnc2⟩ rfl rfl hl.1 (Nat.le_of_ble_eq_true rfl) dL_law_196 ⟨by show cells + 1 ≤ 601024; omega, by show slots + 6 ≤ 7293034; omega⟩ hS (fun q h => by rcases h with h | h; exact CW_b hC q h; rw [h]; exact hob) (fun H locs hP2 hz hk hS => ?_)
      obtain ⟨hC, lf, hO⟩ := hP2
      have hM := MA_fr hM hk (fun q h z => by rcases z with z | z; exact hxy q z h; exact hoy (by rw [← z]; exact h))
      refine va_forget (fun q hq => hS.2.2 q hq) ?_
      have hS := va_S_nil hS
      have hSW := hSW0.keep (fun q h => hS.2.1 q h (Nat.not_le.mpr h))
      refine W.widen (k := cells + 1) (n := slots + 6) (Nat.le_refl _) (Nat.le_refl _) ?_
      refine lv_istore (lv' := [(5, .int (iI 2)), (0, .ref b), (1, .ref x0), (2, .ref y0), (3, .ref o), (4, .int (iI i))]) hx hb dL_law_199 hl (by decide) rfl (fun ls hl => ?_)
      refine lv_aload_n hx hb dL_law_201 rfl (lv_at hl 3 rfl) ?_
      refine lv_aload_n hx hb dL_law_202 rfl (lv_at hl 1 rfl) ?_
      refine lv_iload hx hb dL_law_203 (lv_at hl 5 rfl) ?_
      refine pv_iconst hx hb dL_law_205 ?_
      refine pv_iadd hx hb dL_law_206 ?_
      refine pv_sld (v := u) hx hb hX hbl hbA hS (by omega) (by omega) hu dL_law_207 ?_
      refine mu_callV (As := [.int (iI u)]) (rest := []) AP_mv ⟨hx, hb, hml, hown, hts⟩ (d_M_putBehind2 l D cI cZ s.heap.size st Z y0 y1 y2 y3 y6 y7 y8 hn hF u hur (pl F n u) hrp h0 hcm hfr) (cwV 1 hts gL_law_X1_putBehind rfl rfl rfl (by decide +kernel) ⟨(Nat.le_of_ble_eq_true rfl), (Nat.le_of_ble_eq_true rfl)⟩) ⟨hSW, hM⟩ (AP_rc ⟨hSW, hM⟩) rfl rfl hl.1 (Nat.le_of_ble_eq_true rfl) dL_law_208 ⟨by show cells + 1 + 0 ≤ 601024; omega, by show slots + 6 + 0 ≤ 7293034; omega⟩ hS (MA_b hM) (fun H locs hP2 hz hk hS => ?_)
      have hC := CW_fr hC hk (fun q h z => hxy q h z)
      have hO := OC_fr hO hk hoy
      have hM := hP2
      try dsimp only at hM
      refine va_forget (fun q hq => hS.2.2 q hq) ?_
      have hS := va_S_nil hS
      have hSW := hSW0.keep (fun q h => hS.2.1 q h (Nat.not_le.mpr h))
      refine lv_istore (lv' := [(6, .int (iI (0))), (5, .int (iI 2)), (0, .ref b), (1, .ref x0), (2, .ref y0), (3, .ref o), (4, .int (iI i))]) hx hb dL_law_211 hl (by decide) rfl (fun ls hl => ?_)
      refine lv_aload_n hx hb dL_law_213 rfl (lv_at hl 4 rfl) ?_
      refine pu_callV (v := 2) (As := []) (rest := []) AP_mv ⟨hx, hb, hml, hown, hts⟩ (c_M_thrown l D cI cZ s.heap.size st Z y0 y1 y2 y3 y6 y7 y8) (cwV 0 hts gL_law_X1_thrown rfl rfl rfl (by decide +kernel) ⟨(Nat.le_of_ble_eq_true rfl), (Nat.le_of_ble_eq_true rfl)⟩) ⟨hSW, hM⟩ (AP_rc ⟨hSW, hM⟩) rfl rfl hl.1 (Nat.le_of_ble_eq_true rfl) dL_law_214 ⟨by show cells + 1 + 0 ≤ 601024; omega, by show slots + 6 + 0 ≤ 7293034; omega⟩ ?_
      refine lv_iload hx hb dL_law_217 (lv_at hl 1 rfl) ?_
      refine pv_same (tgt := 224) hx hb dL_law_219 (by decide) ?_
      refine lv_iload hx hb dL_law_224 (lv_at hl 1 rfl) ?_
      refine pv_if_ne (tgt := 241) hx hb dL_law_226 (by decide) (by omega) (fun c9 => ?_) (fun c9 => ?_)
      rotate_left
      · exact absurd c9 (by omega)
      refine lv_goto (tgt := 1234) hx hb dL_law_241 (by decide) ?_
      exact K _ _ _ _ _ _ _ _ _ _ _ _ hI hC hM hO hS (lv_sub hl [2, 3, 4, 5, 6] rfl)
  · skip
    have hrp : PL F n u (-1) := by have h1 := pl_PL (F := F) hn.1 u; have h2 := PL_rg hn.1 h1; rw [show pl F n u = -1 by omega] at h1; exact h1
    refine lv_aload_n hx hb dL_law_188 rfl (lv_at hl 1 rfl) ?_
    refine lv_aload_n hx hb dL_law_189 rfl (lv_at hl 0 rfl) ?_
    refine lv_iload hx hb dL_law_190 (lv_at hl 4 rfl) ?_
    refine pv_iconst hx hb dL_law_192 ?_
    refine pv_iadd hx hb dL_law_193 ?_
    refine pv_sld (v := u) hx hb hX hbl hbA hS (by omega) (by omega) hu dL_law_194 ?_
    refine lv_aload_n hx hb dL_law_195 rfl (lv_at hl 3 rfl) ?_
    refine wr_call (As := [.ref x0, .int (iI u), .ref o]) (rest := []) WP_mv ⟨hx, hb, hml, hown, hts⟩ (v_putBehind l D cI cZ cJ s.heap.size st Z x0 x1 x2 x5 x6 x7 o hfl hn hF u hur hrp) (vx_cwSW 3 hts gL_law_L_putBehind rfl rfl rfl (by decide +kernel) ⟨(Nat.le_of_ble_eq_true rfl), (Nat.le_of_ble_eq_true rfl)⟩) ⟨⟨hSW, hC⟩, hKJ, ⟨lf, hO⟩, hox, hnc1, hnc2⟩ rfl rfl hl.1 (Nat.le_of_ble_eq_true rfl) dL_law_196 ⟨by show cells + 1 ≤ 601024; omega, by show slots + 6 ≤ 7293034; omega⟩ hS (fun q h => by rcases h with h | h; exact CW_b hC q h; rw [h]; exact hob) (fun H locs hP2 hz hk hS => ?_)
    obtain ⟨hC, lf, hO⟩ := hP2
    have hM := MA_fr hM hk (fun q h z => by rcases z with z | z; exact hxy q z h; exact hoy (by rw [← z]; exact h))
    refine va_forget (fun q hq => hS.2.2 q hq) ?_
    have hS := va_S_nil hS
    have hSW := hSW0.keep (fun q h => hS.2.1 q h (Nat.not_le.mpr h))
    refine W.widen (k := cells + 1) (n := slots + 6) (Nat.le_refl _) (Nat.le_refl _) ?_
    refine lv_istore (lv' := [(5, .int (iI 1)), (0, .ref b), (1, .ref x0), (2, .ref y0), (3, .ref o), (4, .int (iI i))]) hx hb dL_law_199 hl (by decide) rfl (fun ls hl => ?_)
    refine lv_aload_n hx hb dL_law_201 rfl (lv_at hl 3 rfl) ?_
    refine lv_aload_n hx hb dL_law_202 rfl (lv_at hl 1 rfl) ?_
    refine lv_iload hx hb dL_law_203 (lv_at hl 5 rfl) ?_
    refine pv_iconst hx hb dL_law_205 ?_
    refine pv_iadd hx hb dL_law_206 ?_
    refine pv_sld (v := u) hx hb hX hbl hbA hS (by omega) (by omega) hu dL_law_207 ?_
    refine mu_callV (As := [.int (iI u)]) (rest := []) AP_mv ⟨hx, hb, hml, hown, hts⟩ (d_M_putBehind l D cI cZ s.heap.size st Z y0 y1 y2 y3 y6 y7 y8 u hur hrp) (cwV 1 hts gL_law_X1_putBehind rfl rfl rfl (by decide +kernel) ⟨(Nat.le_of_ble_eq_true rfl), (Nat.le_of_ble_eq_true rfl)⟩) ⟨hSW, hM⟩ (AP_rc ⟨hSW, hM⟩) rfl rfl hl.1 (Nat.le_of_ble_eq_true rfl) dL_law_208 ⟨by show cells + 1 + 0 ≤ 601024; omega, by show slots + 6 + 0 ≤ 7293034; omega⟩ hS (MA_b hM) (fun H locs hP2 hz hk hS => ?_)
    have hC := CW_fr hC hk (fun q h z => hxy q h z)
    have hO := OC_fr hO hk hoy
    have hM := hP2
    try dsimp only at hM
    refine va_forget (fun q hq => hS.2.2 q hq) ?_
    have hS := va_S_nil hS
    have hSW := hSW0.keep (fun q h => hS.2.1 q h (Nat.not_le.mpr h))
    refine lv_istore (lv' := [(6, .int (iI (0))), (5, .int (iI 1)), (0, .ref b), (1, .ref x0), (2, .ref y0), (3, .ref o), (4, .int (iI i))]) hx hb dL_law_211 hl (by decide) rfl (fun ls hl => ?_)
    refine lv_aload_n hx hb dL_law_213 rfl (lv_at hl 4 rfl) ?_
    refine pu_callV (v := 1) (As := []) (rest := []) AP_mv ⟨hx, hb, hml, hown, hts⟩ (c_M_thrown l D cI cZ s.heap.size st Z y0 y1 y2 y3 y6 y7 y8) (cwV 0 hts gL_law_X1_thrown rfl rfl rfl (by decide +kernel) ⟨(Nat.le_of_ble_eq_true rfl), (Nat.le_of_ble_eq_true rfl)⟩) ⟨hSW, hM⟩ (AP_rc ⟨hSW, hM⟩) rfl rfl hl.1 (Nat.le_of_ble_eq_true rfl) dL_law_214 ⟨by show cells + 1 + 0 ≤ 601024; omega, by show slots + 6 + 0 ≤ 7293034; omega⟩ ?_
    refine lv_iload hx hb dL_law_217 (lv_at hl 1 rfl) ?_
    refine pv_same (tgt := 224) hx hb dL_law_219 (by decide) ?_
    refine lv_iload hx hb dL_law_224 (lv_at hl 1 rfl) ?_
    refine pv_if_ne (tgt := 241) hx hb dL_law_226 (by decide) (by omega) (fun c9 => ?_) (fun c9 => ?_)
    rotate_left
    · exact absurd c9 (by omega)
    refine lv_goto (tgt := 1234) hx hb dL_law_241 (by decide) ?_
    exact K _ _ _ _ _ _ _ _ _ _ _ _ hI hC hM hO hS (lv_sub hl [2, 3, 4, 5, 6] rfl)
set_option maxHeartbeats 4000000 in
set_option maxRecDepth 100000 in
theorem arm_2 {p : Program} {e : Env} {s : State} {m : MethodId} {below : List Frame} {meth : Method} {c : Code} (l : Launch) (hfl : l.stackTraces = false) {b L : Nat} {xs : Nat → Int32} (hL : L ≤ 1536) (C0 : lw_At p s m meth c b L xs)
    {D : va_G} {cI cZ cJ : ClassId} {st : Nat} {Z : Nat → Nat} (hSW0 : SW D cI cZ s.heap.size st Z s s.heap) (hKJ : va_K D vwCl [(cJ, .long)] s) (hnc1 : va_Nc "java/lang/IllegalStateException" "java/lang/IndexOutOfBoundsException" s) (hnc2 : va_Nc "java/lang/IllegalArgumentException" "java/lang/IndexOutOfBoundsException" s)
    {x0 x1 x2 x5 x6 x7 y0 y1 y2 y3 y6 y7 y8 o : Nat} (hxy : ∀ q, mC x0 x1 x2 x5 x6 x7 q → ¬ mM y0 y1 y2 y3 y6 y7 y8 q) (hox : ¬ mC x0 x1 x2 x5 x6 x7 o) (hoy : ¬ mM y0 y1 y2 y3 y6 y7 y8 o) (hob : s.heap.size ≤ o)
    {n came MV th : Int} {F G SP RF RC : Int → Int} (hI : INV n came F G RF) {H : Heap} (hC : CW D cI s.heap.size x0 x1 x2 x5 x6 x7 n came MV F G SP RF RC H) (hM : MA D cI cZ s.heap.size y0 y1 y2 y3 y6 y7 y8 n came MV th F G SP RF RC H) {lf : Nat → Int64} (hO : OC D cJ o lf H) (hS : va_S (fun q : Nat => s.heap.size ≤ q) s.heap H []) {i : Int} (hi : 0 ≤ i ∧ i + 2 < L) {ls : Array Slot} (hl : lv_has ls 7 [(0, .ref b), (1, .ref x0), (2, .ref y0), (3, .ref o), (4, .int (iI i))]) {cells slots : Nat} (hc : cells + 1 ≤ 601024) (hs9 : slots + 6 ≤ 7293034)
    (K : ∀ (n came MV th : Int) (F G SP RF RC : Int → Int) (H : Heap) (lf : Nat → Int64) (ls : Array Slot), INV n came F G RF → CW D cI s.heap.size x0 x1 x2 x5 x6 x7 n came MV F G SP RF RC H → MA D cI cZ s.heap.size y0 y1 y2 y3 y6 y7 y8 n came MV th F G SP RF RC H → OC D cJ o lf H → va_S (fun q : Nat => s.heap.size ≤ q) s.heap H [] → lv_has ls 7 [(0, .ref b), (1, .ref x0), (2, .ref y0), (3, .ref o), (4, .int (iI i))] → W p l e room_1 s m #[Value.ref b] below meth c H [] (cells + 1) (slots + 6) (lw_Z below #[Value.ref b] s) (F0 m 1234 ls [])) : W p l e room_1 s m #[Value.ref b] below meth c H [] (cells) (slots) (lw_Z below #[Value.ref b] s) (F0 m 244 ls []) := by
  obtain ⟨hx, hb, hr, hml, hown, hts0, hX, hbl, hlocks, hgv⟩ := id C0
  have hts : ∀ w ∈ wsL_law, w.before #[Value.ref b] s = true := fun w h => hts0 w (wsL_law_in w h)
  have hbA : ¬ (fun q : Nat => s.heap.size ≤ q) b := Nat.not_le.mpr hbl
  have hSW := hSW0.keep (fun q h => hS.2.1 q h (Nat.not_le.mpr h))
  obtain ⟨hn, hcm, hF, hfc, hFi, hG, hs, hRI0⟩ := id hI
  have hRF := INV_RF hI
  obtain ⟨u, hur, hu⟩ := iI_of (xs (i + 1).toNat)
  by_cases h0 : 0 ≤ pl F n u
  · skip
    have hrp := pl_PL (F := F) hn.1 u
    obtain ⟨hp1, hp2, hp3⟩ := PL_p hrp h0
    refine lv_aload_n hx hb dL_law_244 rfl (lv_at hl 1 rfl) ?_
    refine lv_aload_n hx hb dL_law_245 rfl (lv_at hl 0 rfl) ?_
    refine lv_iload hx hb dL_law_246 (lv_at hl 4 rfl) ?_
    refine pv_iconst hx hb dL_law_248 ?_
    refine pv_iadd hx hb dL_law_249 ?_
    refine pv_sld (v := u) hx hb hX hbl hbA hS (by omega) (by omega) hu dL_law_250 ?_
    refine lv_aload_n hx hb dL_law_251 rfl (lv_at hl 3 rfl) ?_
    refine wr_call (As := [.ref x0, .int (iI u), .ref o]) (rest := []) WP_mv ⟨hx, hb, hml, hown, hts⟩ (w_takeOut l D cI cZ cJ s.heap.size st Z x0 x1 x2 x5 x6 x7 o hn hF hRF u hur (pl F n u) hrp h0) (vx_cwSW 3 hts gL_law_L_takeOut rfl rfl rfl (by decide +kernel) ⟨(Nat.le_of_ble_eq_true rfl), (Nat.le_of_ble_eq_true rfl)⟩) ⟨⟨hSW, hC⟩, hKJ, ⟨lf, hO⟩, hox, hnc1, hnc2⟩ rfl rfl hl.1 (Nat.le_of_ble_eq_true rfl) dL_law_252 ⟨by show cells + 0 ≤ 601024; omega, by show slots + 0 ≤ 7293034; omega⟩ hS (fun q h => by rcases h with h | h; exact CW_b hC q h; rw [h]; exact hob) (fun H locs hP2 hz hk hS => ?_)
    obtain ⟨hC, lf, hv9, hO⟩ := hP2
    have hM := MA_fr hM hk (fun q h z => by rcases z with z | z; exact hxy q z h; exact hoy (by rw [← z]; exact h))
    refine va_forget (fun q hq => hS.2.2 q hq) ?_
    have hS := va_S_nil hS
    have hSW := hSW0.keep (fun q h => hS.2.1 q h (Nat.not_le.mpr h))
    refine W.widen (k := cells + 1) (n := slots + 6) (by omega) (by omega) ?_
    refine lv_istore (lv' := [(5, .int (iI 0)), (0, .ref b), (1, .ref x0), (2, .ref y0), (3, .ref o), (4, .int (iI i))]) hx hb dL_law_255 hl (by decide) rfl (fun ls hl => ?_)
    refine lv_aload_n hx hb dL_law_257 rfl (lv_at hl 3 rfl) ?_
    refine lv_aload_n hx hb dL_law_258 rfl (lv_at hl 1 rfl) ?_
    refine lv_iload hx hb dL_law_259 (lv_at hl 5 rfl) ?_
    refine pv_iconst hx hb dL_law_261 ?_
    refine pv_iadd hx hb dL_law_262 ?_
    refine pv_sld (v := u) hx hb hX hbl hbA hS (by omega) (by omega) hu dL_law_263 ?_
    refine mu_callV (As := [.int (iI u)]) (rest := []) AP_mv ⟨hx, hb, hml, hown, hts⟩ (c_M_takeOut l D cI cZ s.heap.size st Z y0 y1 y2 y3 y6 y7 y8 hn hF u hur (pl F n u) hrp h0 hFi hRF) (cwV 1 hts gL_law_X1_takeOut rfl rfl rfl (by decide +kernel) ⟨(Nat.le_of_ble_eq_true rfl), (Nat.le_of_ble_eq_true rfl)⟩) ⟨hSW, hM⟩ (AP_rc ⟨hSW, hM⟩) rfl rfl hl.1 (Nat.le_of_ble_eq_true rfl) dL_law_264 ⟨by show cells + 1 + 0 ≤ 601024; omega, by show slots + 6 + 0 ≤ 7293034; omega⟩ hS (MA_b hM) (fun H locs hP2 hz hk hS => ?_)
    have hC := CW_fr hC hk (fun q h z => hxy q h z)
    have hO := OC_fr hO hk hoy
    have hM := hP2
    try dsimp only at hM
    refine va_forget (fun q hq => hS.2.2 q hq) ?_
    have hS := va_S_nil hS
    have hSW := hSW0.keep (fun q h => hS.2.1 q h (Nat.not_le.mpr h))
    refine lv_istore (lv' := [(6, .int (iI (n - 1))), (5, .int (iI 0)), (0, .ref b), (1, .ref x0), (2, .ref y0), (3, .ref o), (4, .int (iI i))]) hx hb dL_law_267 hl (by decide) rfl (fun ls hl => ?_)
    refine lv_aload_n hx hb dL_law_269 rfl (lv_at hl 4 rfl) ?_
    refine pu_callV (v := 0) (As := []) (rest := []) AP_mv ⟨hx, hb, hml, hown, hts⟩ (c_M_thrown l D cI cZ s.heap.size st Z y0 y1 y2 y3 y6 y7 y8) (cwV 0 hts gL_law_X1_thrown rfl rfl rfl (by decide +kernel) ⟨(Nat.le_of_ble_eq_true rfl), (Nat.le_of_ble_eq_true rfl)⟩) ⟨hSW, hM⟩ (AP_rc ⟨hSW, hM⟩) rfl rfl hl.1 (Nat.le_of_ble_eq_true rfl) dL_law_270 ⟨by show cells + 1 + 0 ≤ 601024; omega, by show slots + 6 + 0 ≤ 7293034; omega⟩ ?_
    refine lv_iload hx hb dL_law_273 (lv_at hl 1 rfl) ?_
    refine pv_same (tgt := 280) hx hb dL_law_275 (by decide) ?_
    refine lv_iload hx hb dL_law_280 (lv_at hl 1 rfl) ?_
    refine pv_if_ne (tgt := 297) hx hb dL_law_282 (by decide) (by omega) (fun c9 => ?_) (fun c9 => ?_)
    · exact absurd rfl c9
    refine lv_aload_n hx hb dL_law_285 rfl (lv_at hl 5 rfl) ?_
    refine pv_iconst hx hb dL_law_286 ?_
    refine pv_lald hx hb hKJ hO hv9 dL_law_287 ?_
    refine lv_iload hx hb dL_law_288 (lv_at hl 0 rfl) ?_
    refine lv_i2l (v := (iI (n - 1)).toInt64) hx hb dL_law_290 rfl ?_
    refine W.lcmp hx hb dL_law_291 ?_
    rw [lg_cmp_s]
    refine pv_if_eq (tgt := 297) hx hb dL_law_292 (by decide) (by omega) (fun c9 => ?_) (fun c9 => absurd rfl c9)
    refine lv_goto (tgt := 1234) hx hb dL_law_297 (by decide) ?_
    exact K _ _ _ _ _ _ _ _ _ _ _ _ (INV_take hI ⟨hp1, hp2, hp3⟩) hC hM hO hS (lv_sub hl [2, 3, 4, 5, 6] rfl)
  · skip
    have hrp : PL F n u (-1) := by have h1 := pl_PL (F := F) hn.1 u; have h2 := PL_rg hn.1 h1; rw [show pl F n u = -1 by omega] at h1; exact h1
    refine lv_aload_n hx hb dL_law_244 rfl (lv_at hl 1 rfl) ?_
    refine lv_aload_n hx hb dL_law_245 rfl (lv_at hl 0 rfl) ?_
    refine lv_iload hx hb dL_law_246 (lv_at hl 4 rfl) ?_
    refine pv_iconst hx hb dL_law_248 ?_
    refine pv_iadd hx hb dL_law_249 ?_
    refine pv_sld (v := u) hx hb hX hbl hbA hS (by omega) (by omega) hu dL_law_250 ?_
    refine lv_aload_n hx hb dL_law_251 rfl (lv_at hl 3 rfl) ?_
    refine wr_call (As := [.ref x0, .int (iI u), .ref o]) (rest := []) WP_mv ⟨hx, hb, hml, hown, hts⟩ (v_takeOut l D cI cZ cJ s.heap.size st Z x0 x1 x2 x5 x6 x7 o hfl hn hF u hur hrp) (vx_cwSW 3 hts gL_law_L_takeOut rfl rfl rfl (by decide +kernel) ⟨(Nat.le_of_ble_eq_true rfl), (Nat.le_of_ble_eq_true rfl)⟩) ⟨⟨hSW, hC⟩, hKJ, ⟨lf, hO⟩, hox, hnc1, hnc2⟩ rfl rfl hl.1 (Nat.le_of_ble_eq_true rfl) dL_law_252 ⟨by show cells + 1 ≤ 601024; omega, by show slots + 6 ≤ 7293034; omega⟩ hS (fun q h => by rcases h with h | h; exact CW_b hC q h; rw [h]; exact hob) (fun H locs hP2 hz hk hS => ?_)
    obtain ⟨hC, lf, hO⟩ := hP2
    have hM := MA_fr hM hk (fun q h z => by rcases z with z | z; exact hxy q z h; exact hoy (by rw [← z]; exact h))
    refine va_forget (fun q hq => hS.2.2 q hq) ?_
    have hS := va_S_nil hS
    have hSW := hSW0.keep (fun q h => hS.2.1 q h (Nat.not_le.mpr h))
    refine W.widen (k := cells + 1) (n := slots + 6) (Nat.le_refl _) (Nat.le_refl _) ?_
    refine lv_istore (lv' := [(5, .int (iI 1)), (0, .ref b), (1, .ref x0), (2, .ref y0), (3, .ref o), (4, .int (iI i))]) hx hb dL_law_255 hl (by decide) rfl (fun ls hl => ?_)
    refine lv_aload_n hx hb dL_law_257 rfl (lv_at hl 3 rfl) ?_
    refine lv_aload_n hx hb dL_law_258 rfl (lv_at hl 1 rfl) ?_
    refine lv_iload hx hb dL_law_259 (lv_at hl 5 rfl) ?_
    refine pv_iconst hx hb dL_law_261 ?_
    refine pv_iadd hx hb dL_law_262 ?_
    refine pv_sld (v := u) hx hb hX hbl hbA hS (by omega) (by omega) hu dL_law_263 ?_
    refine mu_callV (As := [.int (iI u)]) (rest := []) AP_mv ⟨hx, hb, hml, hown, hts⟩ (d_M_takeOut l D cI cZ s.heap.size st Z y0 y1 y2 y3 y6 y7 y8 u hur hrp) (cwV 1 hts gL_law_X1_takeOut rfl rfl rfl (by decide +kernel) ⟨(Nat.le_of_ble_eq_true rfl), (Nat.le_of_ble_eq_true rfl)⟩) ⟨hSW, hM⟩ (AP_rc ⟨hSW, hM⟩) rfl rfl hl.1 (Nat.le_of_ble_eq_true rfl) dL_law_264 ⟨by show cells + 1 + 0 ≤ 601024; omega, by show slots + 6 + 0 ≤ 7293034; omega⟩ hS (MA_b hM) (fun H locs hP2 hz hk hS => ?_)
    have hC := CW_fr hC hk (fun q h z => hxy q h z)
    have hO := OC_fr hO hk hoy
    have hM := hP2
    try dsimp only at hM
    refine va_forget (fun q hq => hS.2.2 q hq) ?_
    have hS := va_S_nil hS
    have hSW := hSW0.keep (fun q h => hS.2.1 q h (Nat.not_le.mpr h))
    refine lv_istore (lv' := [(6, .int (iI (0))), (5, .int (iI 1)), (0, .ref b), (1, .ref x0), (2, .ref y0), (3, .ref o), (4, .int (iI i))]) hx hb dL_law_267 hl (by decide) rfl (fun ls hl => ?_)
    refine lv_aload_n hx hb dL_law_269 rfl (lv_at hl 4 rfl) ?_
    refine pu_callV (v := 1) (As := []) (rest := []) AP_mv ⟨hx, hb, hml, hown, hts⟩ (c_M_thrown l D cI cZ s.heap.size st Z y0 y1 y2 y3 y6 y7 y8) (cwV 0 hts gL_law_X1_thrown rfl rfl rfl (by decide +kernel) ⟨(Nat.le_of_ble_eq_true rfl), (Nat.le_of_ble_eq_true rfl)⟩) ⟨hSW, hM⟩ (AP_rc ⟨hSW, hM⟩) rfl rfl hl.1 (Nat.le_of_ble_eq_true rfl) dL_law_270 ⟨by show cells + 1 + 0 ≤ 601024; omega, by show slots + 6 + 0 ≤ 7293034; omega⟩ ?_
    refine lv_iload hx hb dL_law_273 (lv_at hl 1 rfl) ?_
    refine pv_same (tgt := 280) hx hb dL_law_275 (by decide) ?_
    refine lv_iload hx hb dL_law_280 (lv_at hl 1 rfl) ?_
    refine pv_if_ne (tgt := 297) hx hb dL_law_282 (by decide) (by omega) (fun c9 => ?_) (fun c9 => ?_)
    rotate_left
    · exact absurd c9 (by omega)
    refine lv_goto (tgt := 1234) hx hb dL_law_297 (by decide) ?_
    exact K _ _ _ _ _ _ _ _ _ _ _ _ hI hC hM hO hS (lv_sub hl [2, 3, 4, 5, 6] rfl)
set_option maxHeartbeats 4000000 in
set_option maxRecDepth 100000 in
theorem arm_3 {p : Program} {e : Env} {s : State} {m : MethodId} {below : List Frame} {meth : Method} {c : Code} (l : Launch) (hfl : l.stackTraces = false) {b L : Nat} {xs : Nat → Int32} (hL : L ≤ 1536) (C0 : lw_At p s m meth c b L xs)
    {D : va_G} {cI cZ cJ : ClassId} {st : Nat} {Z : Nat → Nat} (hSW0 : SW D cI cZ s.heap.size st Z s s.heap) (hKJ : va_K D vwCl [(cJ, .long)] s) (hnc1 : va_Nc "java/lang/IllegalStateException" "java/lang/IndexOutOfBoundsException" s) (hnc2 : va_Nc "java/lang/IllegalArgumentException" "java/lang/IndexOutOfBoundsException" s)
    {x0 x1 x2 x5 x6 x7 y0 y1 y2 y3 y6 y7 y8 o : Nat} (hxy : ∀ q, mC x0 x1 x2 x5 x6 x7 q → ¬ mM y0 y1 y2 y3 y6 y7 y8 q) (hox : ¬ mC x0 x1 x2 x5 x6 x7 o) (hoy : ¬ mM y0 y1 y2 y3 y6 y7 y8 o) (hob : s.heap.size ≤ o)
    {n came MV th : Int} {F G SP RF RC : Int → Int} (hI : INV n came F G RF) {H : Heap} (hC : CW D cI s.heap.size x0 x1 x2 x5 x6 x7 n came MV F G SP RF RC H) (hM : MA D cI cZ s.heap.size y0 y1 y2 y3 y6 y7 y8 n came MV th F G SP RF RC H) {lf : Nat → Int64} (hO : OC D cJ o lf H) (hS : va_S (fun q : Nat => s.heap.size ≤ q) s.heap H []) {i : Int} (hi : 0 ≤ i ∧ i + 2 < L) {ls : Array Slot} (hl : lv_has ls 7 [(0, .ref b), (1, .ref x0), (2, .ref y0), (3, .ref o), (4, .int (iI i))]) {cells slots : Nat} (hc : cells + 1 ≤ 601024) (hs9 : slots + 6 ≤ 7293034)
    (K : ∀ (n came MV th : Int) (F G SP RF RC : Int → Int) (H : Heap) (lf : Nat → Int64) (ls : Array Slot), INV n came F G RF → CW D cI s.heap.size x0 x1 x2 x5 x6 x7 n came MV F G SP RF RC H → MA D cI cZ s.heap.size y0 y1 y2 y3 y6 y7 y8 n came MV th F G SP RF RC H → OC D cJ o lf H → va_S (fun q : Nat => s.heap.size ≤ q) s.heap H [] → lv_has ls 7 [(0, .ref b), (1, .ref x0), (2, .ref y0), (3, .ref o), (4, .int (iI i))] → W p l e room_1 s m #[Value.ref b] below meth c H [] (cells + 1) (slots + 6) (lw_Z below #[Value.ref b] s) (F0 m 1234 ls [])) : W p l e room_1 s m #[Value.ref b] below meth c H [] (cells) (slots) (lw_Z below #[Value.ref b] s) (F0 m 300 ls []) := by
  obtain ⟨hx, hb, hr, hml, hown, hts0, hX, hbl, hlocks, hgv⟩ := id C0
  have hts : ∀ w ∈ wsL_law, w.before #[Value.ref b] s = true := fun w h => hts0 w (wsL_law_in w h)
  have hbA : ¬ (fun q : Nat => s.heap.size ≤ q) b := Nat.not_le.mpr hbl
  have hSW := hSW0.keep (fun q h => hS.2.1 q h (Nat.not_le.mpr h))
  obtain ⟨hn, hcm, hF, hfc, hFi, hG, hs, hRI0⟩ := id hI
  have hRF := INV_RF hI
  obtain ⟨u, hur, hu⟩ := iI_of (xs (i + 1).toNat)
  obtain ⟨v, hvr, hv⟩ := iI_of (xs (i + 2).toNat)
  by_cases h0 : 0 ≤ pl F n u
  · skip
    by_cases h1 : 0 ≤ pl F n v
    · skip
      by_cases hne : u = v
      · skip
        subst hne
        have hrp := pl_PL (F := F) hn.1 u
        obtain ⟨hp1, hp2, hp3⟩ := PL_p hrp h0
        refine lv_aload_n hx hb dL_law_300 rfl (lv_at hl 1 rfl) ?_
        refine lv_aload_n hx hb dL_law_301 rfl (lv_at hl 0 rfl) ?_
        refine lv_iload hx hb dL_law_302 (lv_at hl 4 rfl) ?_
        refine pv_iconst hx hb dL_law_304 ?_
        refine pv_iadd hx hb dL_law_305 ?_
        refine pv_sld (v := u) hx hb hX hbl hbA hS (by omega) (by omega) hu dL_law_306 ?_
        refine lv_aload_n hx hb dL_law_307 rfl (lv_at hl 0 rfl) ?_
        refine lv_iload hx hb dL_law_308 (lv_at hl 4 rfl) ?_
        refine pv_iconst hx hb dL_law_310 ?_
        refine pv_iadd hx hb dL_law_311 ?_
        refine pv_sld (v := u) hx hb hX hbl hbA hS (by omega) (by omega) hv dL_law_312 ?_
        refine lv_aload_n hx hb dL_law_313 rfl (lv_at hl 3 rfl) ?_
        refine wr_call (As := [.ref x0, .int (iI u), .int (iI u), .ref o]) (rest := []) WP_mv ⟨hx, hb, hml, hown, hts⟩ (v_carry3 l D cI cZ cJ s.heap.size st Z x0 x1 x2 x5 x6 x7 o hfl hn hF u hur (pl F n u) hrp h0) (vx_cwSW 4 hts gL_law_L_carry rfl rfl rfl (by decide +kernel) ⟨(Nat.le_of_ble_eq_true rfl), (Nat.le_of_ble_eq_true rfl)⟩) ⟨⟨hSW, hC⟩, hKJ, ⟨lf, hO⟩, hox, hnc1, hnc2⟩ rfl rfl hl.1 (Nat.le_of_ble_eq_true rfl) dL_law_314 ⟨by show cells + 1 ≤ 601024; omega, by show slots + 6 ≤ 7293034; omega⟩ hS (fun q h => by rcases h with h | h; exact CW_b hC q h; rw [h]; exact hob) (fun H locs hP2 hz hk hS => ?_)
        obtain ⟨hC, lf, hO⟩ := hP2
        have hM := MA_fr hM hk (fun q h z => by rcases z with z | z; exact hxy q z h; exact hoy (by rw [← z]; exact h))
        refine va_forget (fun q hq => hS.2.2 q hq) ?_
        have hS := va_S_nil hS
        have hSW := hSW0.keep (fun q h => hS.2.1 q h (Nat.not_le.mpr h))
        refine W.widen (k := cells + 1) (n := slots + 6) (Nat.le_refl _) (Nat.le_refl _) ?_
        refine lv_istore (lv' := [(5, .int (iI 2)), (0, .ref b), (1, .ref x0), (2, .ref y0), (3, .ref o), (4, .int (iI i))]) hx hb dL_law_317 hl (by decide) rfl (fun ls hl => ?_)
        refine lv_aload_n hx hb dL_law_319 rfl (lv_at hl 3 rfl) ?_
        refine lv_aload_n hx hb dL_law_320 rfl (lv_at hl 1 rfl) ?_
        refine lv_iload hx hb dL_law_321 (lv_at hl 5 rfl) ?_
        refine pv_iconst hx hb dL_law_323 ?_
        refine pv_iadd hx hb dL_law_324 ?_
        refine pv_sld (v := u) hx hb hX hbl hbA hS (by omega) (by omega) hu dL_law_325 ?_
        refine lv_aload_n hx hb dL_law_326 rfl (lv_at hl 1 rfl) ?_
        refine lv_iload hx hb dL_law_327 (lv_at hl 5 rfl) ?_
        refine pv_iconst hx hb dL_law_329 ?_
        refine pv_iadd hx hb dL_law_330 ?_
        refine pv_sld (v := u) hx hb hX hbl hbA hS (by omega) (by omega) hv dL_law_331 ?_
        refine mu_callV (As := [.int (iI u), .int (iI u)]) (rest := []) AP_mv ⟨hx, hb, hml, hown, hts⟩ (d_M_carry3 l D cI cZ s.heap.size st Z y0 y1 y2 y3 y6 y7 y8 hn hF u hur (pl F n u) hrp h0) (cwV 2 hts gL_law_X1_carry rfl rfl rfl (by decide +kernel) ⟨(Nat.le_of_ble_eq_true rfl), (Nat.le_of_ble_eq_true rfl)⟩) ⟨hSW, hM⟩ (AP_rc ⟨hSW, hM⟩) rfl rfl hl.1 (Nat.le_of_ble_eq_true rfl) dL_law_332 ⟨by show cells + 1 + 0 ≤ 601024; omega, by show slots + 6 + 0 ≤ 7293034; omega⟩ hS (MA_b hM) (fun H locs hP2 hz hk hS => ?_)
        have hC := CW_fr hC hk (fun q h z => hxy q h z)
        have hO := OC_fr hO hk hoy
        have hM := hP2
        try dsimp only at hM
        refine va_forget (fun q hq => hS.2.2 q hq) ?_
        have hS := va_S_nil hS
        have hSW := hSW0.keep (fun q h => hS.2.1 q h (Nat.not_le.mpr h))
        refine lv_istore (lv' := [(6, .int (iI (0))), (5, .int (iI 2)), (0, .ref b), (1, .ref x0), (2, .ref y0), (3, .ref o), (4, .int (iI i))]) hx hb dL_law_335 hl (by decide) rfl (fun ls hl => ?_)
        refine lv_aload_n hx hb dL_law_337 rfl (lv_at hl 4 rfl) ?_
        refine pu_callV (v := 2) (As := []) (rest := []) AP_mv ⟨hx, hb, hml, hown, hts⟩ (c_M_thrown l D cI cZ s.heap.size st Z y0 y1 y2 y3 y6 y7 y8) (cwV 0 hts gL_law_X1_thrown rfl rfl rfl (by decide +kernel) ⟨(Nat.le_of_ble_eq_true rfl), (Nat.le_of_ble_eq_true rfl)⟩) ⟨hSW, hM⟩ (AP_rc ⟨hSW, hM⟩) rfl rfl hl.1 (Nat.le_of_ble_eq_true rfl) dL_law_338 ⟨by show cells + 1 + 0 ≤ 601024; omega, by show slots + 6 + 0 ≤ 7293034; omega⟩ ?_
        refine lv_iload hx hb dL_law_341 (lv_at hl 1 rfl) ?_
        refine pv_same (tgt := 348) hx hb dL_law_343 (by decide) ?_
        refine lv_iload hx hb dL_law_348 (lv_at hl 1 rfl) ?_
        refine pv_if_ne (tgt := 365) hx hb dL_law_350 (by decide) (by omega) (fun c9 => ?_) (fun c9 => ?_)
        rotate_left
        · exact absurd c9 (by omega)
        refine lv_goto (tgt := 1234) hx hb dL_law_365 (by decide) ?_
        exact K _ _ _ _ _ _ _ _ _ _ _ _ hI hC hM hO hS (lv_sub hl [2, 3, 4, 5, 6] rfl)
      · skip
        have hrp := pl_PL (F := F) hn.1 u
        obtain ⟨hp1, hp2, hp3⟩ := PL_p hrp h0
        have hro := pl_PL (F := F) hn.1 v
        obtain ⟨hq1, hq2, hq3⟩ := PL_p hro h1
        have hne : u ≠ v := hne
        have hG1 := rem_rg (P := fun z => 0 ≤ z ∧ z ≤ 255) hG ⟨hp1, hp2⟩
        have hF1 := rem_rg (P := fun z => 0 ≤ z ∧ z < 200) hF ⟨hp1, hp2⟩
        have hs1 := rem_SD hs ⟨hp1, hp2⟩
        have hrq := pl_PL (F := remF F (pl F n u)) (n := n - 1) (by omega) v
        have h2 : 0 ≤ pl (remF F (pl F n u)) (n - 1) v := pl_in (by omega) (rem_in ⟨hp1, hp2⟩ ⟨hq1, hq2, hq3⟩ (fun z => hne (by rw [← hp3, ← hq3, z])))
        obtain ⟨hw1, hw2, hw3⟩ := PL_p hrq h2
        obtain ⟨G2, dm, SP2, hPT⟩ := PT_ex (remF G (pl F n u)) (n - 1) (pl (remF F (pl F n u)) (n - 1) v + 1) SP
        have hxx := PL_x hF h0 hrp
        have hF2 : ∀ k : Int, 0 ≤ k → k < n → 0 ≤ insF (remF F (pl F n u)) (pl (remF F (pl F n u)) (n - 1) v + 1) u k ∧ insF (remF F (pl F n u)) (pl (remF F (pl F n u)) (n - 1) v + 1) u k < 200 := fun k a b => insF_rg (n := n - 1) hF1 hxx (by omega) k a (by omega)
        have hrz : PL (insF (remF F (pl F n u)) (pl (remF F (pl F n u)) (n - 1) v + 1) u) n u (pl (remF F (pl F n u)) (n - 1) v + 1) := ins_PL (n := n - 1) (fun k a b z => rem_ne hFi ⟨hp1, hp2⟩ k a b (z.trans hp3.symm)) (by omega) (by omega)
        refine lv_aload_n hx hb dL_law_300 rfl (lv_at hl 1 rfl) ?_
        refine lv_aload_n hx hb dL_law_301 rfl (lv_at hl 0 rfl) ?_
        refine lv_iload hx hb dL_law_302 (lv_at hl 4 rfl) ?_
        refine pv_iconst hx hb dL_law_304 ?_
        refine pv_iadd hx hb dL_law_305 ?_
        refine pv_sld (v := u) hx hb hX hbl hbA hS (by omega) (by omega) hu dL_law_306 ?_
        refine lv_aload_n hx hb dL_law_307 rfl (lv_at hl 0 rfl) ?_
        refine lv_iload hx hb dL_law_308 (lv_at hl 4 rfl) ?_
        refine pv_iconst hx hb dL_law_310 ?_
        refine pv_iadd hx hb dL_law_311 ?_
        refine pv_sld (v := v) hx hb hX hbl hbA hS (by omega) (by omega) hv dL_law_312 ?_
        refine lv_aload_n hx hb dL_law_313 rfl (lv_at hl 3 rfl) ?_
        refine wr_call (As := [.ref x0, .int (iI u), .int (iI v), .ref o]) (rest := []) WP_mv ⟨hx, hb, hml, hown, hts⟩ (w_carry l D cI cZ cJ s.heap.size st Z x0 x1 x2 x5 x6 x7 o hn hF hG hs u hur (pl F n u) hrp h0 v hvr (pl F n v) hro h1 hne (pl (remF F (pl F n u)) (n - 1) v) hrq h2 hG1 hs1 hF1 G2 dm SP2 hPT hF2 hrz) (vx_cwSW 4 hts gL_law_L_carry rfl rfl rfl (by decide +kernel) ⟨(Nat.le_of_ble_eq_true rfl), (Nat.le_of_ble_eq_true rfl)⟩) ⟨⟨hSW, hC⟩, hKJ, ⟨lf, hO⟩, hox, hnc1, hnc2⟩ rfl rfl hl.1 (Nat.le_of_ble_eq_true rfl) dL_law_314 ⟨by show cells + 0 ≤ 601024; omega, by show slots + 0 ≤ 7293034; omega⟩ hS (fun q h => by rcases h with h | h; exact CW_b hC q h; rw [h]; exact hob) (fun H locs hP2 hz hk hS => ?_)
        obtain ⟨hC, lf, hv9, hO⟩ := hP2
        have hM := MA_fr hM hk (fun q h z => by rcases z with z | z; exact hxy q z h; exact hoy (by rw [← z]; exact h))
        refine va_forget (fun q hq => hS.2.2 q hq) ?_
        have hS := va_S_nil hS
        have hSW := hSW0.keep (fun q h => hS.2.1 q h (Nat.not_le.mpr h))
        refine W.widen (k := cells + 1) (n := slots + 6) (by omega) (by omega) ?_
        refine lv_istore (lv' := [(5, .int (iI 0)), (0, .ref b), (1, .ref x0), (2, .ref y0), (3, .ref o), (4, .int (iI i))]) hx hb dL_law_317 hl (by decide) rfl (fun ls hl => ?_)
        refine lv_aload_n hx hb dL_law_319 rfl (lv_at hl 3 rfl) ?_
        refine lv_aload_n hx hb dL_law_320 rfl (lv_at hl 1 rfl) ?_
        refine lv_iload hx hb dL_law_321 (lv_at hl 5 rfl) ?_
        refine pv_iconst hx hb dL_law_323 ?_
        refine pv_iadd hx hb dL_law_324 ?_
        refine pv_sld (v := u) hx hb hX hbl hbA hS (by omega) (by omega) hu dL_law_325 ?_
        refine lv_aload_n hx hb dL_law_326 rfl (lv_at hl 1 rfl) ?_
        refine lv_iload hx hb dL_law_327 (lv_at hl 5 rfl) ?_
        refine pv_iconst hx hb dL_law_329 ?_
        refine pv_iadd hx hb dL_law_330 ?_
        refine pv_sld (v := v) hx hb hX hbl hbA hS (by omega) (by omega) hv dL_law_331 ?_
        refine mu_callV (As := [.int (iI u), .int (iI v)]) (rest := []) AP_mv ⟨hx, hb, hml, hown, hts⟩ (c_M_carry l D cI cZ s.heap.size st Z y0 y1 y2 y3 y6 y7 y8 hn hF u hur (pl F n u) hrp h0 hFi hG hs v hvr (pl F n v) hro h1 hne (pl (remF F (pl F n u)) (n - 1) v) hrq h2 G2 dm SP2 hPT) (cwV 2 hts gL_law_X1_carry rfl rfl rfl (by decide +kernel) ⟨(Nat.le_of_ble_eq_true rfl), (Nat.le_of_ble_eq_true rfl)⟩) ⟨hSW, hM⟩ (AP_rc ⟨hSW, hM⟩) rfl rfl hl.1 (Nat.le_of_ble_eq_true rfl) dL_law_332 ⟨by show cells + 1 + 0 ≤ 601024; omega, by show slots + 6 + 0 ≤ 7293034; omega⟩ hS (MA_b hM) (fun H locs hP2 hz hk hS => ?_)
        have hC := CW_fr hC hk (fun q h z => hxy q h z)
        have hO := OC_fr hO hk hoy
        have hM := hP2
        try dsimp only at hM
        refine va_forget (fun q hq => hS.2.2 q hq) ?_
        have hS := va_S_nil hS
        have hSW := hSW0.keep (fun q h => hS.2.1 q h (Nat.not_le.mpr h))
        refine lv_istore (lv' := [(6, .int (iI (G2 ((pl (remF F (pl F n u)) (n - 1) v) + 1)))), (5, .int (iI 0)), (0, .ref b), (1, .ref x0), (2, .ref y0), (3, .ref o), (4, .int (iI i))]) hx hb dL_law_335 hl (by decide) rfl (fun ls hl => ?_)
        refine lv_aload_n hx hb dL_law_337 rfl (lv_at hl 4 rfl) ?_
        refine pu_callV (v := 0) (As := []) (rest := []) AP_mv ⟨hx, hb, hml, hown, hts⟩ (c_M_thrown l D cI cZ s.heap.size st Z y0 y1 y2 y3 y6 y7 y8) (cwV 0 hts gL_law_X1_thrown rfl rfl rfl (by decide +kernel) ⟨(Nat.le_of_ble_eq_true rfl), (Nat.le_of_ble_eq_true rfl)⟩) ⟨hSW, hM⟩ (AP_rc ⟨hSW, hM⟩) rfl rfl hl.1 (Nat.le_of_ble_eq_true rfl) dL_law_338 ⟨by show cells + 1 + 0 ≤ 601024; omega, by show slots + 6 + 0 ≤ 7293034; omega⟩ ?_
        refine lv_iload hx hb dL_law_341 (lv_at hl 1 rfl) ?_
        refine pv_same (tgt := 348) hx hb dL_law_343 (by decide) ?_
        refine lv_iload hx hb dL_law_348 (lv_at hl 1 rfl) ?_
        refine pv_if_ne (tgt := 365) hx hb dL_law_350 (by decide) (by omega) (fun c9 => ?_) (fun c9 => ?_)
        · exact absurd rfl c9
        refine lv_aload_n hx hb dL_law_353 rfl (lv_at hl 5 rfl) ?_
        refine pv_iconst hx hb dL_law_354 ?_
        refine pv_lald hx hb hKJ hO hv9 dL_law_355 ?_
        refine lv_iload hx hb dL_law_356 (lv_at hl 0 rfl) ?_
        refine lv_i2l (v := (iI (G2 ((pl (remF F (pl F n u)) (n - 1) v) + 1))).toInt64) hx hb dL_law_358 rfl ?_
        refine W.lcmp hx hb dL_law_359 ?_
        rw [lg_cmp_s]
        refine pv_if_eq (tgt := 365) hx hb dL_law_360 (by decide) (by omega) (fun c9 => ?_) (fun c9 => absurd rfl c9)
        refine lv_goto (tgt := 1234) hx hb dL_law_365 (by decide) ?_
        rw [show n - 1 + 1 = n by omega] at hC hM
        exact K _ _ _ _ _ _ _ _ _ _ _ _ (INV_carry hI ⟨hp1, hp2, hp3⟩ (by omega) hPT) hC hM hO hS (lv_sub hl [2, 3, 4, 5, 6] rfl)
    · skip
      have hrp := pl_PL (F := F) hn.1 u
      obtain ⟨hp1, hp2, hp3⟩ := PL_p hrp h0
      have hro : PL F n v (-1) := by have h1 := pl_PL (F := F) hn.1 v; have h2 := PL_rg hn.1 h1; rw [show pl F n v = -1 by omega] at h1; exact h1
      refine lv_aload_n hx hb dL_law_300 rfl (lv_at hl 1 rfl) ?_
      refine lv_aload_n hx hb dL_law_301 rfl (lv_at hl 0 rfl) ?_
      refine lv_iload hx hb dL_law_302 (lv_at hl 4 rfl) ?_
      refine pv_iconst hx hb dL_law_304 ?_
      refine pv_iadd hx hb dL_law_305 ?_
      refine pv_sld (v := u) hx hb hX hbl hbA hS (by omega) (by omega) hu dL_law_306 ?_
      refine lv_aload_n hx hb dL_law_307 rfl (lv_at hl 0 rfl) ?_
      refine lv_iload hx hb dL_law_308 (lv_at hl 4 rfl) ?_
      refine pv_iconst hx hb dL_law_310 ?_
      refine pv_iadd hx hb dL_law_311 ?_
      refine pv_sld (v := v) hx hb hX hbl hbA hS (by omega) (by omega) hv dL_law_312 ?_
      refine lv_aload_n hx hb dL_law_313 rfl (lv_at hl 3 rfl) ?_
      refine wr_call (As := [.ref x0, .int (iI u), .int (iI v), .ref o]) (rest := []) WP_mv ⟨hx, hb, hml, hown, hts⟩ (v_carry2 l D cI cZ cJ s.heap.size st Z x0 x1 x2 x5 x6 x7 o hfl hn hF u hur (pl F n u) hrp h0 v hvr hro) (vx_cwSW 4 hts gL_law_L_carry rfl rfl rfl (by decide +kernel) ⟨(Nat.le_of_ble_eq_true rfl), (Nat.le_of_ble_eq_true rfl)⟩) ⟨⟨hSW, hC⟩, hKJ, ⟨lf, hO⟩, hox, hnc1, hnc2⟩ rfl rfl hl.1 (Nat.le_of_ble_eq_true rfl) dL_law_314 ⟨by show cells + 1 ≤ 601024; omega, by show slots + 6 ≤ 7293034; omega⟩ hS (fun q h => by rcases h with h | h; exact CW_b hC q h; rw [h]; exact hob) (fun H locs hP2 hz hk hS => ?_)
      obtain ⟨hC, lf, hO⟩ := hP2
      have hM := MA_fr hM hk (fun q h z => by rcases z with z | z; exact hxy q z h; exact hoy (by rw [← z]; exact h))
      refine va_forget (fun q hq => hS.2.2 q hq) ?_
      have hS := va_S_nil hS
      have hSW := hSW0.keep (fun q h => hS.2.1 q h (Nat.not_le.mpr h))
      refine W.widen (k := cells + 1) (n := slots + 6) (Nat.le_refl _) (Nat.le_refl _) ?_
      refine lv_istore (lv' := [(5, .int (iI 1)), (0, .ref b), (1, .ref x0), (2, .ref y0), (3, .ref o), (4, .int (iI i))]) hx hb dL_law_317 hl (by decide) rfl (fun ls hl => ?_)
      refine lv_aload_n hx hb dL_law_319 rfl (lv_at hl 3 rfl) ?_
      refine lv_aload_n hx hb dL_law_320 rfl (lv_at hl 1 rfl) ?_
      refine lv_iload hx hb dL_law_321 (lv_at hl 5 rfl) ?_
      refine pv_iconst hx hb dL_law_323 ?_
      refine pv_iadd hx hb dL_law_324 ?_
      refine pv_sld (v := u) hx hb hX hbl hbA hS (by omega) (by omega) hu dL_law_325 ?_
      refine lv_aload_n hx hb dL_law_326 rfl (lv_at hl 1 rfl) ?_
      refine lv_iload hx hb dL_law_327 (lv_at hl 5 rfl) ?_
      refine pv_iconst hx hb dL_law_329 ?_
      refine pv_iadd hx hb dL_law_330 ?_
      refine pv_sld (v := v) hx hb hX hbl hbA hS (by omega) (by omega) hv dL_law_331 ?_
      refine mu_callV (As := [.int (iI u), .int (iI v)]) (rest := []) AP_mv ⟨hx, hb, hml, hown, hts⟩ (d_M_carry2 l D cI cZ s.heap.size st Z y0 y1 y2 y3 y6 y7 y8 hn hF u hur (pl F n u) hrp h0 v hvr hro) (cwV 2 hts gL_law_X1_carry rfl rfl rfl (by decide +kernel) ⟨(Nat.le_of_ble_eq_true rfl), (Nat.le_of_ble_eq_true rfl)⟩) ⟨hSW, hM⟩ (AP_rc ⟨hSW, hM⟩) rfl rfl hl.1 (Nat.le_of_ble_eq_true rfl) dL_law_332 ⟨by show cells + 1 + 0 ≤ 601024; omega, by show slots + 6 + 0 ≤ 7293034; omega⟩ hS (MA_b hM) (fun H locs hP2 hz hk hS => ?_)
      have hC := CW_fr hC hk (fun q h z => hxy q h z)
      have hO := OC_fr hO hk hoy
      have hM := hP2
      try dsimp only at hM
      refine va_forget (fun q hq => hS.2.2 q hq) ?_
      have hS := va_S_nil hS
      have hSW := hSW0.keep (fun q h => hS.2.1 q h (Nat.not_le.mpr h))
      refine lv_istore (lv' := [(6, .int (iI (0))), (5, .int (iI 1)), (0, .ref b), (1, .ref x0), (2, .ref y0), (3, .ref o), (4, .int (iI i))]) hx hb dL_law_335 hl (by decide) rfl (fun ls hl => ?_)
      refine lv_aload_n hx hb dL_law_337 rfl (lv_at hl 4 rfl) ?_
      refine pu_callV (v := 1) (As := []) (rest := []) AP_mv ⟨hx, hb, hml, hown, hts⟩ (c_M_thrown l D cI cZ s.heap.size st Z y0 y1 y2 y3 y6 y7 y8) (cwV 0 hts gL_law_X1_thrown rfl rfl rfl (by decide +kernel) ⟨(Nat.le_of_ble_eq_true rfl), (Nat.le_of_ble_eq_true rfl)⟩) ⟨hSW, hM⟩ (AP_rc ⟨hSW, hM⟩) rfl rfl hl.1 (Nat.le_of_ble_eq_true rfl) dL_law_338 ⟨by show cells + 1 + 0 ≤ 601024; omega, by show slots + 6 + 0 ≤ 7293034; omega⟩ ?_
      refine lv_iload hx hb dL_law_341 (lv_at hl 1 rfl) ?_
      refine pv_same (tgt := 348) hx hb dL_law_343 (by decide) ?_
      refine lv_iload hx hb dL_law_348 (lv_at hl 1 rfl) ?_
      refine pv_if_ne (tgt := 365) hx hb dL_law_350 (by decide) (by omega) (fun c9 => ?_) (fun c9 => ?_)
      rotate_left
      · exact absurd c9 (by omega)
      refine lv_goto (tgt := 1234) hx hb dL_law_365 (by decide) ?_
      exact K _ _ _ _ _ _ _ _ _ _ _ _ hI hC hM hO hS (lv_sub hl [2, 3, 4, 5, 6] rfl)
  · skip
    have hrp : PL F n u (-1) := by have h1 := pl_PL (F := F) hn.1 u; have h2 := PL_rg hn.1 h1; rw [show pl F n u = -1 by omega] at h1; exact h1
    refine lv_aload_n hx hb dL_law_300 rfl (lv_at hl 1 rfl) ?_
    refine lv_aload_n hx hb dL_law_301 rfl (lv_at hl 0 rfl) ?_
    refine lv_iload hx hb dL_law_302 (lv_at hl 4 rfl) ?_
    refine pv_iconst hx hb dL_law_304 ?_
    refine pv_iadd hx hb dL_law_305 ?_
    refine pv_sld (v := u) hx hb hX hbl hbA hS (by omega) (by omega) hu dL_law_306 ?_
    refine lv_aload_n hx hb dL_law_307 rfl (lv_at hl 0 rfl) ?_
    refine lv_iload hx hb dL_law_308 (lv_at hl 4 rfl) ?_
    refine pv_iconst hx hb dL_law_310 ?_
    refine pv_iadd hx hb dL_law_311 ?_
    refine pv_sld (v := v) hx hb hX hbl hbA hS (by omega) (by omega) hv dL_law_312 ?_
    refine lv_aload_n hx hb dL_law_313 rfl (lv_at hl 3 rfl) ?_
    refine wr_call (As := [.ref x0, .int (iI u), .int (iI v), .ref o]) (rest := []) WP_mv ⟨hx, hb, hml, hown, hts⟩ (v_carry l D cI cZ cJ s.heap.size st Z x0 x1 x2 x5 x6 x7 o hfl hn hF u hur hrp v) (vx_cwSW 4 hts gL_law_L_carry rfl rfl rfl (by decide +kernel) ⟨(Nat.le_of_ble_eq_true rfl), (Nat.le_of_ble_eq_true rfl)⟩) ⟨⟨hSW, hC⟩, hKJ, ⟨lf, hO⟩, hox, hnc1, hnc2⟩ rfl rfl hl.1 (Nat.le_of_ble_eq_true rfl) dL_law_314 ⟨by show cells + 1 ≤ 601024; omega, by show slots + 6 ≤ 7293034; omega⟩ hS (fun q h => by rcases h with h | h; exact CW_b hC q h; rw [h]; exact hob) (fun H locs hP2 hz hk hS => ?_)
    obtain ⟨hC, lf, hO⟩ := hP2
    have hM := MA_fr hM hk (fun q h z => by rcases z with z | z; exact hxy q z h; exact hoy (by rw [← z]; exact h))
    refine va_forget (fun q hq => hS.2.2 q hq) ?_
    have hS := va_S_nil hS
    have hSW := hSW0.keep (fun q h => hS.2.1 q h (Nat.not_le.mpr h))
    refine W.widen (k := cells + 1) (n := slots + 6) (Nat.le_refl _) (Nat.le_refl _) ?_
    refine lv_istore (lv' := [(5, .int (iI 1)), (0, .ref b), (1, .ref x0), (2, .ref y0), (3, .ref o), (4, .int (iI i))]) hx hb dL_law_317 hl (by decide) rfl (fun ls hl => ?_)
    refine lv_aload_n hx hb dL_law_319 rfl (lv_at hl 3 rfl) ?_
    refine lv_aload_n hx hb dL_law_320 rfl (lv_at hl 1 rfl) ?_
    refine lv_iload hx hb dL_law_321 (lv_at hl 5 rfl) ?_
    refine pv_iconst hx hb dL_law_323 ?_
    refine pv_iadd hx hb dL_law_324 ?_
    refine pv_sld (v := u) hx hb hX hbl hbA hS (by omega) (by omega) hu dL_law_325 ?_
    refine lv_aload_n hx hb dL_law_326 rfl (lv_at hl 1 rfl) ?_
    refine lv_iload hx hb dL_law_327 (lv_at hl 5 rfl) ?_
    refine pv_iconst hx hb dL_law_329 ?_
    refine pv_iadd hx hb dL_law_330 ?_
    refine pv_sld (v := v) hx hb hX hbl hbA hS (by omega) (by omega) hv dL_law_331 ?_
    refine mu_callV (As := [.int (iI u), .int (iI v)]) (rest := []) AP_mv ⟨hx, hb, hml, hown, hts⟩ (d_M_carry l D cI cZ s.heap.size st Z y0 y1 y2 y3 y6 y7 y8 u hur hrp v) (cwV 2 hts gL_law_X1_carry rfl rfl rfl (by decide +kernel) ⟨(Nat.le_of_ble_eq_true rfl), (Nat.le_of_ble_eq_true rfl)⟩) ⟨hSW, hM⟩ (AP_rc ⟨hSW, hM⟩) rfl rfl hl.1 (Nat.le_of_ble_eq_true rfl) dL_law_332 ⟨by show cells + 1 + 0 ≤ 601024; omega, by show slots + 6 + 0 ≤ 7293034; omega⟩ hS (MA_b hM) (fun H locs hP2 hz hk hS => ?_)
    have hC := CW_fr hC hk (fun q h z => hxy q h z)
    have hO := OC_fr hO hk hoy
    have hM := hP2
    try dsimp only at hM
    refine va_forget (fun q hq => hS.2.2 q hq) ?_
    have hS := va_S_nil hS
    have hSW := hSW0.keep (fun q h => hS.2.1 q h (Nat.not_le.mpr h))
    refine lv_istore (lv' := [(6, .int (iI (0))), (5, .int (iI 1)), (0, .ref b), (1, .ref x0), (2, .ref y0), (3, .ref o), (4, .int (iI i))]) hx hb dL_law_335 hl (by decide) rfl (fun ls hl => ?_)
    refine lv_aload_n hx hb dL_law_337 rfl (lv_at hl 4 rfl) ?_
    refine pu_callV (v := 1) (As := []) (rest := []) AP_mv ⟨hx, hb, hml, hown, hts⟩ (c_M_thrown l D cI cZ s.heap.size st Z y0 y1 y2 y3 y6 y7 y8) (cwV 0 hts gL_law_X1_thrown rfl rfl rfl (by decide +kernel) ⟨(Nat.le_of_ble_eq_true rfl), (Nat.le_of_ble_eq_true rfl)⟩) ⟨hSW, hM⟩ (AP_rc ⟨hSW, hM⟩) rfl rfl hl.1 (Nat.le_of_ble_eq_true rfl) dL_law_338 ⟨by show cells + 1 + 0 ≤ 601024; omega, by show slots + 6 + 0 ≤ 7293034; omega⟩ ?_
    refine lv_iload hx hb dL_law_341 (lv_at hl 1 rfl) ?_
    refine pv_same (tgt := 348) hx hb dL_law_343 (by decide) ?_
    refine lv_iload hx hb dL_law_348 (lv_at hl 1 rfl) ?_
    refine pv_if_ne (tgt := 365) hx hb dL_law_350 (by decide) (by omega) (fun c9 => ?_) (fun c9 => ?_)
    rotate_left
    · exact absurd c9 (by omega)
    refine lv_goto (tgt := 1234) hx hb dL_law_365 (by decide) ?_
    exact K _ _ _ _ _ _ _ _ _ _ _ _ hI hC hM hO hS (lv_sub hl [2, 3, 4, 5, 6] rfl)
set_option maxHeartbeats 4000000 in
set_option maxRecDepth 100000 in
theorem arm_4 {p : Program} {e : Env} {s : State} {m : MethodId} {below : List Frame} {meth : Method} {c : Code} (l : Launch) (hfl : l.stackTraces = false) {b L : Nat} {xs : Nat → Int32} (hL : L ≤ 1536) (C0 : lw_At p s m meth c b L xs)
    {D : va_G} {cI cZ cJ : ClassId} {st : Nat} {Z : Nat → Nat} (hSW0 : SW D cI cZ s.heap.size st Z s s.heap) (hKJ : va_K D vwCl [(cJ, .long)] s) (hnc1 : va_Nc "java/lang/IllegalStateException" "java/lang/IndexOutOfBoundsException" s) (hnc2 : va_Nc "java/lang/IllegalArgumentException" "java/lang/IndexOutOfBoundsException" s)
    {x0 x1 x2 x5 x6 x7 y0 y1 y2 y3 y6 y7 y8 o : Nat} (hxy : ∀ q, mC x0 x1 x2 x5 x6 x7 q → ¬ mM y0 y1 y2 y3 y6 y7 y8 q) (hox : ¬ mC x0 x1 x2 x5 x6 x7 o) (hoy : ¬ mM y0 y1 y2 y3 y6 y7 y8 o) (hob : s.heap.size ≤ o)
    {n came MV th : Int} {F G SP RF RC : Int → Int} (hI : INV n came F G RF) {H : Heap} (hC : CW D cI s.heap.size x0 x1 x2 x5 x6 x7 n came MV F G SP RF RC H) (hM : MA D cI cZ s.heap.size y0 y1 y2 y3 y6 y7 y8 n came MV th F G SP RF RC H) {lf : Nat → Int64} (hO : OC D cJ o lf H) (hS : va_S (fun q : Nat => s.heap.size ≤ q) s.heap H []) {i : Int} (hi : 0 ≤ i ∧ i + 2 < L) {ls : Array Slot} (hl : lv_has ls 7 [(0, .ref b), (1, .ref x0), (2, .ref y0), (3, .ref o), (4, .int (iI i))]) {cells slots : Nat} (hc : cells + 1 ≤ 601024) (hs9 : slots + 6 ≤ 7293034)
    (K : ∀ (n came MV th : Int) (F G SP RF RC : Int → Int) (H : Heap) (lf : Nat → Int64) (ls : Array Slot), INV n came F G RF → CW D cI s.heap.size x0 x1 x2 x5 x6 x7 n came MV F G SP RF RC H → MA D cI cZ s.heap.size y0 y1 y2 y3 y6 y7 y8 n came MV th F G SP RF RC H → OC D cJ o lf H → va_S (fun q : Nat => s.heap.size ≤ q) s.heap H [] → lv_has ls 7 [(0, .ref b), (1, .ref x0), (2, .ref y0), (3, .ref o), (4, .int (iI i))] → W p l e room_1 s m #[Value.ref b] below meth c H [] (cells + 1) (slots + 6) (lw_Z below #[Value.ref b] s) (F0 m 1234 ls [])) : W p l e room_1 s m #[Value.ref b] below meth c H [] (cells) (slots) (lw_Z below #[Value.ref b] s) (F0 m 368 ls []) := by
  obtain ⟨hx, hb, hr, hml, hown, hts0, hX, hbl, hlocks, hgv⟩ := id C0
  have hts : ∀ w ∈ wsL_law, w.before #[Value.ref b] s = true := fun w h => hts0 w (wsL_law_in w h)
  have hbA : ¬ (fun q : Nat => s.heap.size ≤ q) b := Nat.not_le.mpr hbl
  have hSW := hSW0.keep (fun q h => hS.2.1 q h (Nat.not_le.mpr h))
  obtain ⟨hn, hcm, hF, hfc, hFi, hG, hs, hRI0⟩ := id hI
  have hRF := INV_RF hI
  refine lv_aload_n hx hb dL_law_368 rfl (lv_at hl 1 rfl) ?_
  refine pu_callV (v := n) (As := []) (rest := []) CP_mv ⟨hx, hb, hml, hown, hts⟩ (c_size l D cI cZ s.heap.size st Z x0 x1 x2 x5 x6 x7 hn) (cwV 0 hts gL_law_X0_size rfl rfl rfl (by decide +kernel) ⟨(Nat.le_of_ble_eq_true rfl), (Nat.le_of_ble_eq_true rfl)⟩) ⟨hSW, hC⟩ (CP_rc ⟨hSW, hC⟩) rfl rfl hl.1 (Nat.le_of_ble_eq_true rfl) dL_law_369 ⟨by show cells + 0 ≤ 601024; omega, by show slots + 0 ≤ 7293034; omega⟩ ?_
  refine lv_aload_n hx hb dL_law_372 rfl (lv_at hl 2 rfl) ?_
  refine mu_callV (As := []) (rest := [.int (iI (n))]) AP_mv ⟨hx, hb, hml, hown, hts⟩ (c_M_size l D cI cZ s.heap.size st Z y0 y1 y2 y3 y6 y7 y8 ) (cwV 0 hts gL_law_X1_size rfl rfl rfl (by decide +kernel) ⟨(Nat.le_of_ble_eq_true rfl), (Nat.le_of_ble_eq_true rfl)⟩) ⟨hSW, hM⟩ (AP_rc ⟨hSW, hM⟩) rfl rfl hl.1 (Nat.le_of_ble_eq_true rfl) dL_law_373 ⟨by show cells + 0 ≤ 601024; omega, by show slots + 0 ≤ 7293034; omega⟩ hS (MA_b hM) (fun H locs hP2 hz hk hS => ?_)
  have hC := CW_fr hC hk (fun q h z => hxy q h z)
  have hO := OC_fr hO hk hoy
  have hM := hP2
  try dsimp only at hM
  refine va_forget (fun q hq => hS.2.2 q hq) ?_
  have hS := va_S_nil hS
  have hSW := hSW0.keep (fun q h => hS.2.1 q h (Nat.not_le.mpr h))
  refine pv_same (tgt := 1234) hx hb dL_law_376 (by decide) ?_
  refine W.widen (k := cells + 1) (n := slots + 6) (by omega) (by omega) ?_
  exact K _ _ _ _ _ _ _ _ _ _ _ _ hI hC hM hO hS (lv_sub hl [0, 1, 2, 3, 4] rfl)
set_option maxHeartbeats 4000000 in
set_option maxRecDepth 100000 in
theorem arm_5 {p : Program} {e : Env} {s : State} {m : MethodId} {below : List Frame} {meth : Method} {c : Code} (l : Launch) (hfl : l.stackTraces = false) {b L : Nat} {xs : Nat → Int32} (hL : L ≤ 1536) (C0 : lw_At p s m meth c b L xs)
    {D : va_G} {cI cZ cJ : ClassId} {st : Nat} {Z : Nat → Nat} (hSW0 : SW D cI cZ s.heap.size st Z s s.heap) (hKJ : va_K D vwCl [(cJ, .long)] s) (hnc1 : va_Nc "java/lang/IllegalStateException" "java/lang/IndexOutOfBoundsException" s) (hnc2 : va_Nc "java/lang/IllegalArgumentException" "java/lang/IndexOutOfBoundsException" s)
    {x0 x1 x2 x5 x6 x7 y0 y1 y2 y3 y6 y7 y8 o : Nat} (hxy : ∀ q, mC x0 x1 x2 x5 x6 x7 q → ¬ mM y0 y1 y2 y3 y6 y7 y8 q) (hox : ¬ mC x0 x1 x2 x5 x6 x7 o) (hoy : ¬ mM y0 y1 y2 y3 y6 y7 y8 o) (hob : s.heap.size ≤ o)
    {n came MV th : Int} {F G SP RF RC : Int → Int} (hI : INV n came F G RF) {H : Heap} (hC : CW D cI s.heap.size x0 x1 x2 x5 x6 x7 n came MV F G SP RF RC H) (hM : MA D cI cZ s.heap.size y0 y1 y2 y3 y6 y7 y8 n came MV th F G SP RF RC H) {lf : Nat → Int64} (hO : OC D cJ o lf H) (hS : va_S (fun q : Nat => s.heap.size ≤ q) s.heap H []) {i : Int} (hi : 0 ≤ i ∧ i + 2 < L) {ls : Array Slot} (hl : lv_has ls 7 [(0, .ref b), (1, .ref x0), (2, .ref y0), (3, .ref o), (4, .int (iI i))]) {cells slots : Nat} (hc : cells + 1 ≤ 601024) (hs9 : slots + 6 ≤ 7293034)
    (K : ∀ (n came MV th : Int) (F G SP RF RC : Int → Int) (H : Heap) (lf : Nat → Int64) (ls : Array Slot), INV n came F G RF → CW D cI s.heap.size x0 x1 x2 x5 x6 x7 n came MV F G SP RF RC H → MA D cI cZ s.heap.size y0 y1 y2 y3 y6 y7 y8 n came MV th F G SP RF RC H → OC D cJ o lf H → va_S (fun q : Nat => s.heap.size ≤ q) s.heap H [] → lv_has ls 7 [(0, .ref b), (1, .ref x0), (2, .ref y0), (3, .ref o), (4, .int (iI i))] → W p l e room_1 s m #[Value.ref b] below meth c H [] (cells + 1) (slots + 6) (lw_Z below #[Value.ref b] s) (F0 m 1234 ls [])) : W p l e room_1 s m #[Value.ref b] below meth c H [] (cells) (slots) (lw_Z below #[Value.ref b] s) (F0 m 381 ls []) := by
  obtain ⟨hx, hb, hr, hml, hown, hts0, hX, hbl, hlocks, hgv⟩ := id C0
  have hts : ∀ w ∈ wsL_law, w.before #[Value.ref b] s = true := fun w h => hts0 w (wsL_law_in w h)
  have hbA : ¬ (fun q : Nat => s.heap.size ≤ q) b := Nat.not_le.mpr hbl
  have hSW := hSW0.keep (fun q h => hS.2.1 q h (Nat.not_le.mpr h))
  obtain ⟨hn, hcm, hF, hfc, hFi, hG, hs, hRI0⟩ := id hI
  have hRF := INV_RF hI
  refine lv_aload_n hx hb dL_law_381 rfl (lv_at hl 1 rfl) ?_
  refine pu_callV (v := fa F n 0) (As := []) (rest := []) CP_mv ⟨hx, hb, hml, hown, hts⟩ (c_first l D cI cZ s.heap.size st Z x0 x1 x2 x5 x6 x7 hn (fa F n 0) rfl) (cwV 0 hts gL_law_X0_first rfl rfl rfl (by decide +kernel) ⟨(Nat.le_of_ble_eq_true rfl), (Nat.le_of_ble_eq_true rfl)⟩) ⟨hSW, hC⟩ (CP_rc ⟨hSW, hC⟩) rfl rfl hl.1 (Nat.le_of_ble_eq_true rfl) dL_law_382 ⟨by show cells + 0 ≤ 601024; omega, by show slots + 0 ≤ 7293034; omega⟩ ?_
  refine lv_aload_n hx hb dL_law_385 rfl (lv_at hl 2 rfl) ?_
  refine mu_callV (As := []) (rest := [.int (iI (fa F n 0))]) AP_mv ⟨hx, hb, hml, hown, hts⟩ (c_M_first l D cI cZ s.heap.size st Z y0 y1 y2 y3 y6 y7 y8 hn hF (fa F n 0) rfl) (cwV 0 hts gL_law_X1_first rfl rfl rfl (by decide +kernel) ⟨(Nat.le_of_ble_eq_true rfl), (Nat.le_of_ble_eq_true rfl)⟩) ⟨hSW, hM⟩ (AP_rc ⟨hSW, hM⟩) rfl rfl hl.1 (Nat.le_of_ble_eq_true rfl) dL_law_386 ⟨by show cells + 0 ≤ 601024; omega, by show slots + 0 ≤ 7293034; omega⟩ hS (MA_b hM) (fun H locs hP2 hz hk hS => ?_)
  have hC := CW_fr hC hk (fun q h z => hxy q h z)
  have hO := OC_fr hO hk hoy
  have hM := hP2
  try dsimp only at hM
  refine va_forget (fun q hq => hS.2.2 q hq) ?_
  have hS := va_S_nil hS
  have hSW := hSW0.keep (fun q h => hS.2.1 q h (Nat.not_le.mpr h))
  refine pv_same (tgt := 1234) hx hb dL_law_389 (by decide) ?_
  refine W.widen (k := cells + 1) (n := slots + 6) (by omega) (by omega) ?_
  exact K _ _ _ _ _ _ _ _ _ _ _ _ hI hC hM hO hS (lv_sub hl [0, 1, 2, 3, 4] rfl)
set_option maxHeartbeats 4000000 in
set_option maxRecDepth 100000 in
theorem arm_6 {p : Program} {e : Env} {s : State} {m : MethodId} {below : List Frame} {meth : Method} {c : Code} (l : Launch) (hfl : l.stackTraces = false) {b L : Nat} {xs : Nat → Int32} (hL : L ≤ 1536) (C0 : lw_At p s m meth c b L xs)
    {D : va_G} {cI cZ cJ : ClassId} {st : Nat} {Z : Nat → Nat} (hSW0 : SW D cI cZ s.heap.size st Z s s.heap) (hKJ : va_K D vwCl [(cJ, .long)] s) (hnc1 : va_Nc "java/lang/IllegalStateException" "java/lang/IndexOutOfBoundsException" s) (hnc2 : va_Nc "java/lang/IllegalArgumentException" "java/lang/IndexOutOfBoundsException" s)
    {x0 x1 x2 x5 x6 x7 y0 y1 y2 y3 y6 y7 y8 o : Nat} (hxy : ∀ q, mC x0 x1 x2 x5 x6 x7 q → ¬ mM y0 y1 y2 y3 y6 y7 y8 q) (hox : ¬ mC x0 x1 x2 x5 x6 x7 o) (hoy : ¬ mM y0 y1 y2 y3 y6 y7 y8 o) (hob : s.heap.size ≤ o)
    {n came MV th : Int} {F G SP RF RC : Int → Int} (hI : INV n came F G RF) {H : Heap} (hC : CW D cI s.heap.size x0 x1 x2 x5 x6 x7 n came MV F G SP RF RC H) (hM : MA D cI cZ s.heap.size y0 y1 y2 y3 y6 y7 y8 n came MV th F G SP RF RC H) {lf : Nat → Int64} (hO : OC D cJ o lf H) (hS : va_S (fun q : Nat => s.heap.size ≤ q) s.heap H []) {i : Int} (hi : 0 ≤ i ∧ i + 2 < L) {ls : Array Slot} (hl : lv_has ls 7 [(0, .ref b), (1, .ref x0), (2, .ref y0), (3, .ref o), (4, .int (iI i))]) {cells slots : Nat} (hc : cells + 1 ≤ 601024) (hs9 : slots + 6 ≤ 7293034)
    (K : ∀ (n came MV th : Int) (F G SP RF RC : Int → Int) (H : Heap) (lf : Nat → Int64) (ls : Array Slot), INV n came F G RF → CW D cI s.heap.size x0 x1 x2 x5 x6 x7 n came MV F G SP RF RC H → MA D cI cZ s.heap.size y0 y1 y2 y3 y6 y7 y8 n came MV th F G SP RF RC H → OC D cJ o lf H → va_S (fun q : Nat => s.heap.size ≤ q) s.heap H [] → lv_has ls 7 [(0, .ref b), (1, .ref x0), (2, .ref y0), (3, .ref o), (4, .int (iI i))] → W p l e room_1 s m #[Value.ref b] below meth c H [] (cells + 1) (slots + 6) (lw_Z below #[Value.ref b] s) (F0 m 1234 ls [])) : W p l e room_1 s m #[Value.ref b] below meth c H [] (cells) (slots) (lw_Z below #[Value.ref b] s) (F0 m 394 ls []) := by
  obtain ⟨hx, hb, hr, hml, hown, hts0, hX, hbl, hlocks, hgv⟩ := id C0
  have hts : ∀ w ∈ wsL_law, w.before #[Value.ref b] s = true := fun w h => hts0 w (wsL_law_in w h)
  have hbA : ¬ (fun q : Nat => s.heap.size ≤ q) b := Nat.not_le.mpr hbl
  have hSW := hSW0.keep (fun q h => hS.2.1 q h (Nat.not_le.mpr h))
  obtain ⟨hn, hcm, hF, hfc, hFi, hG, hs, hRI0⟩ := id hI
  have hRF := INV_RF hI
  obtain ⟨u, hur, hu⟩ := iI_of (xs (i + 1).toNat)
  by_cases h0 : 0 ≤ pl F n u
  · skip
    have hrp := pl_PL (F := F) hn.1 u
    obtain ⟨hp1, hp2, hp3⟩ := PL_p hrp h0
    refine lv_aload_n hx hb dL_law_394 rfl (lv_at hl 1 rfl) ?_
    refine lv_aload_n hx hb dL_law_395 rfl (lv_at hl 0 rfl) ?_
    refine lv_iload hx hb dL_law_396 (lv_at hl 4 rfl) ?_
    refine pv_iconst hx hb dL_law_398 ?_
    refine pv_iadd hx hb dL_law_399 ?_
    refine pv_sld (v := u) hx hb hX hbl hbA hS (by omega) (by omega) hu dL_law_400 ?_
    refine lv_aload_n hx hb dL_law_401 rfl (lv_at hl 3 rfl) ?_
    refine wr_call (As := [.ref x0, .int (iI u), .ref o]) (rest := []) WP_mv ⟨hx, hb, hml, hown, hts⟩ (w_next l D cI cZ cJ s.heap.size st Z x0 x1 x2 x5 x6 x7 o hn hF u hur (pl F n u) hrp h0 (fa F n (pl F n u + 1)) rfl) (vx_cwSW 3 hts gL_law_L_next rfl rfl rfl (by decide +kernel) ⟨(Nat.le_of_ble_eq_true rfl), (Nat.le_of_ble_eq_true rfl)⟩) ⟨⟨hSW, hC⟩, hKJ, ⟨lf, hO⟩, hox, hnc1, hnc2⟩ rfl rfl hl.1 (Nat.le_of_ble_eq_true rfl) dL_law_402 ⟨by show cells + 0 ≤ 601024; omega, by show slots + 0 ≤ 7293034; omega⟩ hS (fun q h => by rcases h with h | h; exact CW_b hC q h; rw [h]; exact hob) (fun H locs hP2 hz hk hS => ?_)
    obtain ⟨hC, lf, hv9, hO⟩ := hP2
    have hM := MA_fr hM hk (fun q h z => by rcases z with z | z; exact hxy q z h; exact hoy (by rw [← z]; exact h))
    refine va_forget (fun q hq => hS.2.2 q hq) ?_
    have hS := va_S_nil hS
    have hSW := hSW0.keep (fun q h => hS.2.1 q h (Nat.not_le.mpr h))
    refine W.widen (k := cells + 1) (n := slots + 6) (by omega) (by omega) ?_
    refine lv_istore (lv' := [(5, .int (iI 0)), (0, .ref b), (1, .ref x0), (2, .ref y0), (3, .ref o), (4, .int (iI i))]) hx hb dL_law_405 hl (by decide) rfl (fun ls hl => ?_)
    refine lv_aload_n hx hb dL_law_407 rfl (lv_at hl 3 rfl) ?_
    refine lv_aload_n hx hb dL_law_408 rfl (lv_at hl 1 rfl) ?_
    refine lv_iload hx hb dL_law_409 (lv_at hl 5 rfl) ?_
    refine pv_iconst hx hb dL_law_411 ?_
    refine pv_iadd hx hb dL_law_412 ?_
    refine pv_sld (v := u) hx hb hX hbl hbA hS (by omega) (by omega) hu dL_law_413 ?_
    refine mu_callV (As := [.int (iI u)]) (rest := []) AP_mv ⟨hx, hb, hml, hown, hts⟩ (c_M_next l D cI cZ s.heap.size st Z y0 y1 y2 y3 y6 y7 y8 hn hF u hur (pl F n u) hrp h0 (fa F n (pl F n u + 1)) rfl) (cwV 1 hts gL_law_X1_next rfl rfl rfl (by decide +kernel) ⟨(Nat.le_of_ble_eq_true rfl), (Nat.le_of_ble_eq_true rfl)⟩) ⟨hSW, hM⟩ (AP_rc ⟨hSW, hM⟩) rfl rfl hl.1 (Nat.le_of_ble_eq_true rfl) dL_law_414 ⟨by show cells + 1 + 0 ≤ 601024; omega, by show slots + 6 + 0 ≤ 7293034; omega⟩ hS (MA_b hM) (fun H locs hP2 hz hk hS => ?_)
    have hC := CW_fr hC hk (fun q h z => hxy q h z)
    have hO := OC_fr hO hk hoy
    have hM := hP2
    try dsimp only at hM
    refine va_forget (fun q hq => hS.2.2 q hq) ?_
    have hS := va_S_nil hS
    have hSW := hSW0.keep (fun q h => hS.2.1 q h (Nat.not_le.mpr h))
    refine lv_istore (lv' := [(6, .int (iI (fa F n (pl F n u + 1)))), (5, .int (iI 0)), (0, .ref b), (1, .ref x0), (2, .ref y0), (3, .ref o), (4, .int (iI i))]) hx hb dL_law_417 hl (by decide) rfl (fun ls hl => ?_)
    refine lv_aload_n hx hb dL_law_419 rfl (lv_at hl 4 rfl) ?_
    refine pu_callV (v := 0) (As := []) (rest := []) AP_mv ⟨hx, hb, hml, hown, hts⟩ (c_M_thrown l D cI cZ s.heap.size st Z y0 y1 y2 y3 y6 y7 y8) (cwV 0 hts gL_law_X1_thrown rfl rfl rfl (by decide +kernel) ⟨(Nat.le_of_ble_eq_true rfl), (Nat.le_of_ble_eq_true rfl)⟩) ⟨hSW, hM⟩ (AP_rc ⟨hSW, hM⟩) rfl rfl hl.1 (Nat.le_of_ble_eq_true rfl) dL_law_420 ⟨by show cells + 1 + 0 ≤ 601024; omega, by show slots + 6 + 0 ≤ 7293034; omega⟩ ?_
    refine lv_iload hx hb dL_law_423 (lv_at hl 1 rfl) ?_
    refine pv_same (tgt := 430) hx hb dL_law_425 (by decide) ?_
    refine lv_iload hx hb dL_law_430 (lv_at hl 1 rfl) ?_
    refine pv_if_ne (tgt := 447) hx hb dL_law_432 (by decide) (by omega) (fun c9 => ?_) (fun c9 => ?_)
    · exact absurd rfl c9
    refine lv_aload_n hx hb dL_law_435 rfl (lv_at hl 5 rfl) ?_
    refine pv_iconst hx hb dL_law_436 ?_
    refine pv_lald hx hb hKJ hO hv9 dL_law_437 ?_
    refine lv_iload hx hb dL_law_438 (lv_at hl 0 rfl) ?_
    refine lv_i2l (v := (iI (fa F n (pl F n u + 1))).toInt64) hx hb dL_law_440 rfl ?_
    refine W.lcmp hx hb dL_law_441 ?_
    rw [lg_cmp_s]
    refine pv_if_eq (tgt := 447) hx hb dL_law_442 (by decide) (by omega) (fun c9 => ?_) (fun c9 => absurd rfl c9)
    refine lv_goto (tgt := 1234) hx hb dL_law_447 (by decide) ?_
    exact K _ _ _ _ _ _ _ _ _ _ _ _ hI hC hM hO hS (lv_sub hl [2, 3, 4, 5, 6] rfl)
  · skip
    have hrp : PL F n u (-1) := by have h1 := pl_PL (F := F) hn.1 u; have h2 := PL_rg hn.1 h1; rw [show pl F n u = -1 by omega] at h1; exact h1
    refine lv_aload_n hx hb dL_law_394 rfl (lv_at hl 1 rfl) ?_
    refine lv_aload_n hx hb dL_law_395 rfl (lv_at hl 0 rfl) ?_
    refine lv_iload hx hb dL_law_396 (lv_at hl 4 rfl) ?_
    refine pv_iconst hx hb dL_law_398 ?_
    refine pv_iadd hx hb dL_law_399 ?_
    refine pv_sld (v := u) hx hb hX hbl hbA hS (by omega) (by omega) hu dL_law_400 ?_
    refine lv_aload_n hx hb dL_law_401 rfl (lv_at hl 3 rfl) ?_
    refine wr_call (As := [.ref x0, .int (iI u), .ref o]) (rest := []) WP_mv ⟨hx, hb, hml, hown, hts⟩ (v_next l D cI cZ cJ s.heap.size st Z x0 x1 x2 x5 x6 x7 o hfl hn hF u hur hrp) (vx_cwSW 3 hts gL_law_L_next rfl rfl rfl (by decide +kernel) ⟨(Nat.le_of_ble_eq_true rfl), (Nat.le_of_ble_eq_true rfl)⟩) ⟨⟨hSW, hC⟩, hKJ, ⟨lf, hO⟩, hox, hnc1, hnc2⟩ rfl rfl hl.1 (Nat.le_of_ble_eq_true rfl) dL_law_402 ⟨by show cells + 1 ≤ 601024; omega, by show slots + 6 ≤ 7293034; omega⟩ hS (fun q h => by rcases h with h | h; exact CW_b hC q h; rw [h]; exact hob) (fun H locs hP2 hz hk hS => ?_)
    obtain ⟨hC, lf, hO⟩ := hP2
    have hM := MA_fr hM hk (fun q h z => by rcases z with z | z; exact hxy q z h; exact hoy (by rw [← z]; exact h))
    refine va_forget (fun q hq => hS.2.2 q hq) ?_
    have hS := va_S_nil hS
    have hSW := hSW0.keep (fun q h => hS.2.1 q h (Nat.not_le.mpr h))
    refine W.widen (k := cells + 1) (n := slots + 6) (Nat.le_refl _) (Nat.le_refl _) ?_
    refine lv_istore (lv' := [(5, .int (iI 1)), (0, .ref b), (1, .ref x0), (2, .ref y0), (3, .ref o), (4, .int (iI i))]) hx hb dL_law_405 hl (by decide) rfl (fun ls hl => ?_)
    refine lv_aload_n hx hb dL_law_407 rfl (lv_at hl 3 rfl) ?_
    refine lv_aload_n hx hb dL_law_408 rfl (lv_at hl 1 rfl) ?_
    refine lv_iload hx hb dL_law_409 (lv_at hl 5 rfl) ?_
    refine pv_iconst hx hb dL_law_411 ?_
    refine pv_iadd hx hb dL_law_412 ?_
    refine pv_sld (v := u) hx hb hX hbl hbA hS (by omega) (by omega) hu dL_law_413 ?_
    refine mu_callV (As := [.int (iI u)]) (rest := []) AP_mv ⟨hx, hb, hml, hown, hts⟩ (d_M_next l D cI cZ s.heap.size st Z y0 y1 y2 y3 y6 y7 y8 u hur hrp) (cwV 1 hts gL_law_X1_next rfl rfl rfl (by decide +kernel) ⟨(Nat.le_of_ble_eq_true rfl), (Nat.le_of_ble_eq_true rfl)⟩) ⟨hSW, hM⟩ (AP_rc ⟨hSW, hM⟩) rfl rfl hl.1 (Nat.le_of_ble_eq_true rfl) dL_law_414 ⟨by show cells + 1 + 0 ≤ 601024; omega, by show slots + 6 + 0 ≤ 7293034; omega⟩ hS (MA_b hM) (fun H locs hP2 hz hk hS => ?_)
    have hC := CW_fr hC hk (fun q h z => hxy q h z)
    have hO := OC_fr hO hk hoy
    have hM := hP2
    try dsimp only at hM
    refine va_forget (fun q hq => hS.2.2 q hq) ?_
    have hS := va_S_nil hS
    have hSW := hSW0.keep (fun q h => hS.2.1 q h (Nat.not_le.mpr h))
    refine lv_istore (lv' := [(6, .int (iI (0))), (5, .int (iI 1)), (0, .ref b), (1, .ref x0), (2, .ref y0), (3, .ref o), (4, .int (iI i))]) hx hb dL_law_417 hl (by decide) rfl (fun ls hl => ?_)
    refine lv_aload_n hx hb dL_law_419 rfl (lv_at hl 4 rfl) ?_
    refine pu_callV (v := 1) (As := []) (rest := []) AP_mv ⟨hx, hb, hml, hown, hts⟩ (c_M_thrown l D cI cZ s.heap.size st Z y0 y1 y2 y3 y6 y7 y8) (cwV 0 hts gL_law_X1_thrown rfl rfl rfl (by decide +kernel) ⟨(Nat.le_of_ble_eq_true rfl), (Nat.le_of_ble_eq_true rfl)⟩) ⟨hSW, hM⟩ (AP_rc ⟨hSW, hM⟩) rfl rfl hl.1 (Nat.le_of_ble_eq_true rfl) dL_law_420 ⟨by show cells + 1 + 0 ≤ 601024; omega, by show slots + 6 + 0 ≤ 7293034; omega⟩ ?_
    refine lv_iload hx hb dL_law_423 (lv_at hl 1 rfl) ?_
    refine pv_same (tgt := 430) hx hb dL_law_425 (by decide) ?_
    refine lv_iload hx hb dL_law_430 (lv_at hl 1 rfl) ?_
    refine pv_if_ne (tgt := 447) hx hb dL_law_432 (by decide) (by omega) (fun c9 => ?_) (fun c9 => ?_)
    rotate_left
    · exact absurd c9 (by omega)
    refine lv_goto (tgt := 1234) hx hb dL_law_447 (by decide) ?_
    exact K _ _ _ _ _ _ _ _ _ _ _ _ hI hC hM hO hS (lv_sub hl [2, 3, 4, 5, 6] rfl)
set_option maxHeartbeats 4000000 in
set_option maxRecDepth 100000 in
theorem arm_7 {p : Program} {e : Env} {s : State} {m : MethodId} {below : List Frame} {meth : Method} {c : Code} (l : Launch) (hfl : l.stackTraces = false) {b L : Nat} {xs : Nat → Int32} (hL : L ≤ 1536) (C0 : lw_At p s m meth c b L xs)
    {D : va_G} {cI cZ cJ : ClassId} {st : Nat} {Z : Nat → Nat} (hSW0 : SW D cI cZ s.heap.size st Z s s.heap) (hKJ : va_K D vwCl [(cJ, .long)] s) (hnc1 : va_Nc "java/lang/IllegalStateException" "java/lang/IndexOutOfBoundsException" s) (hnc2 : va_Nc "java/lang/IllegalArgumentException" "java/lang/IndexOutOfBoundsException" s)
    {x0 x1 x2 x5 x6 x7 y0 y1 y2 y3 y6 y7 y8 o : Nat} (hxy : ∀ q, mC x0 x1 x2 x5 x6 x7 q → ¬ mM y0 y1 y2 y3 y6 y7 y8 q) (hox : ¬ mC x0 x1 x2 x5 x6 x7 o) (hoy : ¬ mM y0 y1 y2 y3 y6 y7 y8 o) (hob : s.heap.size ≤ o)
    {n came MV th : Int} {F G SP RF RC : Int → Int} (hI : INV n came F G RF) {H : Heap} (hC : CW D cI s.heap.size x0 x1 x2 x5 x6 x7 n came MV F G SP RF RC H) (hM : MA D cI cZ s.heap.size y0 y1 y2 y3 y6 y7 y8 n came MV th F G SP RF RC H) {lf : Nat → Int64} (hO : OC D cJ o lf H) (hS : va_S (fun q : Nat => s.heap.size ≤ q) s.heap H []) {i : Int} (hi : 0 ≤ i ∧ i + 2 < L) {ls : Array Slot} (hl : lv_has ls 7 [(0, .ref b), (1, .ref x0), (2, .ref y0), (3, .ref o), (4, .int (iI i))]) {cells slots : Nat} (hc : cells + 1 ≤ 601024) (hs9 : slots + 6 ≤ 7293034)
    (K : ∀ (n came MV th : Int) (F G SP RF RC : Int → Int) (H : Heap) (lf : Nat → Int64) (ls : Array Slot), INV n came F G RF → CW D cI s.heap.size x0 x1 x2 x5 x6 x7 n came MV F G SP RF RC H → MA D cI cZ s.heap.size y0 y1 y2 y3 y6 y7 y8 n came MV th F G SP RF RC H → OC D cJ o lf H → va_S (fun q : Nat => s.heap.size ≤ q) s.heap H [] → lv_has ls 7 [(0, .ref b), (1, .ref x0), (2, .ref y0), (3, .ref o), (4, .int (iI i))] → W p l e room_1 s m #[Value.ref b] below meth c H [] (cells + 1) (slots + 6) (lw_Z below #[Value.ref b] s) (F0 m 1234 ls [])) : W p l e room_1 s m #[Value.ref b] below meth c H [] (cells) (slots) (lw_Z below #[Value.ref b] s) (F0 m 450 ls []) := by
  obtain ⟨hx, hb, hr, hml, hown, hts0, hX, hbl, hlocks, hgv⟩ := id C0
  have hts : ∀ w ∈ wsL_law, w.before #[Value.ref b] s = true := fun w h => hts0 w (wsL_law_in w h)
  have hbA : ¬ (fun q : Nat => s.heap.size ≤ q) b := Nat.not_le.mpr hbl
  have hSW := hSW0.keep (fun q h => hS.2.1 q h (Nat.not_le.mpr h))
  obtain ⟨hn, hcm, hF, hfc, hFi, hG, hs, hRI0⟩ := id hI
  have hRF := INV_RF hI
  obtain ⟨u, hur, hu⟩ := iI_of (xs (i + 1).toNat)
  by_cases h0 : 0 ≤ pl F n u
  · skip
    have hrp := pl_PL (F := F) hn.1 u
    obtain ⟨hp1, hp2, hp3⟩ := PL_p hrp h0
    refine lv_aload_n hx hb dL_law_450 rfl (lv_at hl 1 rfl) ?_
    refine lv_aload_n hx hb dL_law_451 rfl (lv_at hl 0 rfl) ?_
    refine lv_iload hx hb dL_law_452 (lv_at hl 4 rfl) ?_
    refine pv_iconst hx hb dL_law_454 ?_
    refine pv_iadd hx hb dL_law_455 ?_
    refine pv_sld (v := u) hx hb hX hbl hbA hS (by omega) (by omega) hu dL_law_456 ?_
    refine lv_aload_n hx hb dL_law_457 rfl (lv_at hl 3 rfl) ?_
    refine wr_call (As := [.ref x0, .int (iI u), .ref o]) (rest := []) WP_mv ⟨hx, hb, hml, hown, hts⟩ (w_previous l D cI cZ cJ s.heap.size st Z x0 x1 x2 x5 x6 x7 o hn hF u hur (pl F n u) hrp h0 (fa F n (pl F n u - 1)) rfl) (vx_cwSW 3 hts gL_law_L_previous rfl rfl rfl (by decide +kernel) ⟨(Nat.le_of_ble_eq_true rfl), (Nat.le_of_ble_eq_true rfl)⟩) ⟨⟨hSW, hC⟩, hKJ, ⟨lf, hO⟩, hox, hnc1, hnc2⟩ rfl rfl hl.1 (Nat.le_of_ble_eq_true rfl) dL_law_458 ⟨by show cells + 0 ≤ 601024; omega, by show slots + 0 ≤ 7293034; omega⟩ hS (fun q h => by rcases h with h | h; exact CW_b hC q h; rw [h]; exact hob) (fun H locs hP2 hz hk hS => ?_)
    obtain ⟨hC, lf, hv9, hO⟩ := hP2
    have hM := MA_fr hM hk (fun q h z => by rcases z with z | z; exact hxy q z h; exact hoy (by rw [← z]; exact h))
    refine va_forget (fun q hq => hS.2.2 q hq) ?_
    have hS := va_S_nil hS
    have hSW := hSW0.keep (fun q h => hS.2.1 q h (Nat.not_le.mpr h))
    refine W.widen (k := cells + 1) (n := slots + 6) (by omega) (by omega) ?_
    refine lv_istore (lv' := [(5, .int (iI 0)), (0, .ref b), (1, .ref x0), (2, .ref y0), (3, .ref o), (4, .int (iI i))]) hx hb dL_law_461 hl (by decide) rfl (fun ls hl => ?_)
    refine lv_aload_n hx hb dL_law_463 rfl (lv_at hl 3 rfl) ?_
    refine lv_aload_n hx hb dL_law_464 rfl (lv_at hl 1 rfl) ?_
    refine lv_iload hx hb dL_law_465 (lv_at hl 5 rfl) ?_
    refine pv_iconst hx hb dL_law_467 ?_
    refine pv_iadd hx hb dL_law_468 ?_
    refine pv_sld (v := u) hx hb hX hbl hbA hS (by omega) (by omega) hu dL_law_469 ?_
    refine mu_callV (As := [.int (iI u)]) (rest := []) AP_mv ⟨hx, hb, hml, hown, hts⟩ (c_M_previous l D cI cZ s.heap.size st Z y0 y1 y2 y3 y6 y7 y8 hn hF u hur (pl F n u) hrp h0 (fa F n (pl F n u - 1)) rfl) (cwV 1 hts gL_law_X1_previous rfl rfl rfl (by decide +kernel) ⟨(Nat.le_of_ble_eq_true rfl), (Nat.le_of_ble_eq_true rfl)⟩) ⟨hSW, hM⟩ (AP_rc ⟨hSW, hM⟩) rfl rfl hl.1 (Nat.le_of_ble_eq_true rfl) dL_law_470 ⟨by show cells + 1 + 0 ≤ 601024; omega, by show slots + 6 + 0 ≤ 7293034; omega⟩ hS (MA_b hM) (fun H locs hP2 hz hk hS => ?_)
    have hC := CW_fr hC hk (fun q h z => hxy q h z)
    have hO := OC_fr hO hk hoy
    have hM := hP2
    try dsimp only at hM
    refine va_forget (fun q hq => hS.2.2 q hq) ?_
    have hS := va_S_nil hS
    have hSW := hSW0.keep (fun q h => hS.2.1 q h (Nat.not_le.mpr h))
    refine lv_istore (lv' := [(6, .int (iI (fa F n (pl F n u - 1)))), (5, .int (iI 0)), (0, .ref b), (1, .ref x0), (2, .ref y0), (3, .ref o), (4, .int (iI i))]) hx hb dL_law_473 hl (by decide) rfl (fun ls hl => ?_)
    refine lv_aload_n hx hb dL_law_475 rfl (lv_at hl 4 rfl) ?_
    refine pu_callV (v := 0) (As := []) (rest := []) AP_mv ⟨hx, hb, hml, hown, hts⟩ (c_M_thrown l D cI cZ s.heap.size st Z y0 y1 y2 y3 y6 y7 y8) (cwV 0 hts gL_law_X1_thrown rfl rfl rfl (by decide +kernel) ⟨(Nat.le_of_ble_eq_true rfl), (Nat.le_of_ble_eq_true rfl)⟩) ⟨hSW, hM⟩ (AP_rc ⟨hSW, hM⟩) rfl rfl hl.1 (Nat.le_of_ble_eq_true rfl) dL_law_476 ⟨by show cells + 1 + 0 ≤ 601024; omega, by show slots + 6 + 0 ≤ 7293034; omega⟩ ?_
    refine lv_iload hx hb dL_law_479 (lv_at hl 1 rfl) ?_
    refine pv_same (tgt := 486) hx hb dL_law_481 (by decide) ?_
    refine lv_iload hx hb dL_law_486 (lv_at hl 1 rfl) ?_
    refine pv_if_ne (tgt := 503) hx hb dL_law_488 (by decide) (by omega) (fun c9 => ?_) (fun c9 => ?_)
    · exact absurd rfl c9
    refine lv_aload_n hx hb dL_law_491 rfl (lv_at hl 5 rfl) ?_
    refine pv_iconst hx hb dL_law_492 ?_
    refine pv_lald hx hb hKJ hO hv9 dL_law_493 ?_
    refine lv_iload hx hb dL_law_494 (lv_at hl 0 rfl) ?_
    refine lv_i2l (v := (iI (fa F n (pl F n u - 1))).toInt64) hx hb dL_law_496 rfl ?_
    refine W.lcmp hx hb dL_law_497 ?_
    rw [lg_cmp_s]
    refine pv_if_eq (tgt := 503) hx hb dL_law_498 (by decide) (by omega) (fun c9 => ?_) (fun c9 => absurd rfl c9)
    refine lv_goto (tgt := 1234) hx hb dL_law_503 (by decide) ?_
    exact K _ _ _ _ _ _ _ _ _ _ _ _ hI hC hM hO hS (lv_sub hl [2, 3, 4, 5, 6] rfl)
  · skip
    have hrp : PL F n u (-1) := by have h1 := pl_PL (F := F) hn.1 u; have h2 := PL_rg hn.1 h1; rw [show pl F n u = -1 by omega] at h1; exact h1
    refine lv_aload_n hx hb dL_law_450 rfl (lv_at hl 1 rfl) ?_
    refine lv_aload_n hx hb dL_law_451 rfl (lv_at hl 0 rfl) ?_
    refine lv_iload hx hb dL_law_452 (lv_at hl 4 rfl) ?_
    refine pv_iconst hx hb dL_law_454 ?_
    refine pv_iadd hx hb dL_law_455 ?_
    refine pv_sld (v := u) hx hb hX hbl hbA hS (by omega) (by omega) hu dL_law_456 ?_
    refine lv_aload_n hx hb dL_law_457 rfl (lv_at hl 3 rfl) ?_
    refine wr_call (As := [.ref x0, .int (iI u), .ref o]) (rest := []) WP_mv ⟨hx, hb, hml, hown, hts⟩ (v_previous l D cI cZ cJ s.heap.size st Z x0 x1 x2 x5 x6 x7 o hfl hn hF u hur hrp) (vx_cwSW 3 hts gL_law_L_previous rfl rfl rfl (by decide +kernel) ⟨(Nat.le_of_ble_eq_true rfl), (Nat.le_of_ble_eq_true rfl)⟩) ⟨⟨hSW, hC⟩, hKJ, ⟨lf, hO⟩, hox, hnc1, hnc2⟩ rfl rfl hl.1 (Nat.le_of_ble_eq_true rfl) dL_law_458 ⟨by show cells + 1 ≤ 601024; omega, by show slots + 6 ≤ 7293034; omega⟩ hS (fun q h => by rcases h with h | h; exact CW_b hC q h; rw [h]; exact hob) (fun H locs hP2 hz hk hS => ?_)
    obtain ⟨hC, lf, hO⟩ := hP2
    have hM := MA_fr hM hk (fun q h z => by rcases z with z | z; exact hxy q z h; exact hoy (by rw [← z]; exact h))
    refine va_forget (fun q hq => hS.2.2 q hq) ?_
    have hS := va_S_nil hS
    have hSW := hSW0.keep (fun q h => hS.2.1 q h (Nat.not_le.mpr h))
    refine W.widen (k := cells + 1) (n := slots + 6) (Nat.le_refl _) (Nat.le_refl _) ?_
    refine lv_istore (lv' := [(5, .int (iI 1)), (0, .ref b), (1, .ref x0), (2, .ref y0), (3, .ref o), (4, .int (iI i))]) hx hb dL_law_461 hl (by decide) rfl (fun ls hl => ?_)
    refine lv_aload_n hx hb dL_law_463 rfl (lv_at hl 3 rfl) ?_
    refine lv_aload_n hx hb dL_law_464 rfl (lv_at hl 1 rfl) ?_
    refine lv_iload hx hb dL_law_465 (lv_at hl 5 rfl) ?_
    refine pv_iconst hx hb dL_law_467 ?_
    refine pv_iadd hx hb dL_law_468 ?_
    refine pv_sld (v := u) hx hb hX hbl hbA hS (by omega) (by omega) hu dL_law_469 ?_
    refine mu_callV (As := [.int (iI u)]) (rest := []) AP_mv ⟨hx, hb, hml, hown, hts⟩ (d_M_previous l D cI cZ s.heap.size st Z y0 y1 y2 y3 y6 y7 y8 u hur hrp) (cwV 1 hts gL_law_X1_previous rfl rfl rfl (by decide +kernel) ⟨(Nat.le_of_ble_eq_true rfl), (Nat.le_of_ble_eq_true rfl)⟩) ⟨hSW, hM⟩ (AP_rc ⟨hSW, hM⟩) rfl rfl hl.1 (Nat.le_of_ble_eq_true rfl) dL_law_470 ⟨by show cells + 1 + 0 ≤ 601024; omega, by show slots + 6 + 0 ≤ 7293034; omega⟩ hS (MA_b hM) (fun H locs hP2 hz hk hS => ?_)
    have hC := CW_fr hC hk (fun q h z => hxy q h z)
    have hO := OC_fr hO hk hoy
    have hM := hP2
    try dsimp only at hM
    refine va_forget (fun q hq => hS.2.2 q hq) ?_
    have hS := va_S_nil hS
    have hSW := hSW0.keep (fun q h => hS.2.1 q h (Nat.not_le.mpr h))
    refine lv_istore (lv' := [(6, .int (iI (0))), (5, .int (iI 1)), (0, .ref b), (1, .ref x0), (2, .ref y0), (3, .ref o), (4, .int (iI i))]) hx hb dL_law_473 hl (by decide) rfl (fun ls hl => ?_)
    refine lv_aload_n hx hb dL_law_475 rfl (lv_at hl 4 rfl) ?_
    refine pu_callV (v := 1) (As := []) (rest := []) AP_mv ⟨hx, hb, hml, hown, hts⟩ (c_M_thrown l D cI cZ s.heap.size st Z y0 y1 y2 y3 y6 y7 y8) (cwV 0 hts gL_law_X1_thrown rfl rfl rfl (by decide +kernel) ⟨(Nat.le_of_ble_eq_true rfl), (Nat.le_of_ble_eq_true rfl)⟩) ⟨hSW, hM⟩ (AP_rc ⟨hSW, hM⟩) rfl rfl hl.1 (Nat.le_of_ble_eq_true rfl) dL_law_476 ⟨by show cells + 1 + 0 ≤ 601024; omega, by show slots + 6 + 0 ≤ 7293034; omega⟩ ?_
    refine lv_iload hx hb dL_law_479 (lv_at hl 1 rfl) ?_
    refine pv_same (tgt := 486) hx hb dL_law_481 (by decide) ?_
    refine lv_iload hx hb dL_law_486 (lv_at hl 1 rfl) ?_
    refine pv_if_ne (tgt := 503) hx hb dL_law_488 (by decide) (by omega) (fun c9 => ?_) (fun c9 => ?_)
    rotate_left
    · exact absurd c9 (by omega)
    refine lv_goto (tgt := 1234) hx hb dL_law_503 (by decide) ?_
    exact K _ _ _ _ _ _ _ _ _ _ _ _ hI hC hM hO hS (lv_sub hl [2, 3, 4, 5, 6] rfl)
set_option maxHeartbeats 4000000 in
set_option maxRecDepth 100000 in
theorem arm_8 {p : Program} {e : Env} {s : State} {m : MethodId} {below : List Frame} {meth : Method} {c : Code} (l : Launch) (hfl : l.stackTraces = false) {b L : Nat} {xs : Nat → Int32} (hL : L ≤ 1536) (C0 : lw_At p s m meth c b L xs)
    {D : va_G} {cI cZ cJ : ClassId} {st : Nat} {Z : Nat → Nat} (hSW0 : SW D cI cZ s.heap.size st Z s s.heap) (hKJ : va_K D vwCl [(cJ, .long)] s) (hnc1 : va_Nc "java/lang/IllegalStateException" "java/lang/IndexOutOfBoundsException" s) (hnc2 : va_Nc "java/lang/IllegalArgumentException" "java/lang/IndexOutOfBoundsException" s)
    {x0 x1 x2 x5 x6 x7 y0 y1 y2 y3 y6 y7 y8 o : Nat} (hxy : ∀ q, mC x0 x1 x2 x5 x6 x7 q → ¬ mM y0 y1 y2 y3 y6 y7 y8 q) (hox : ¬ mC x0 x1 x2 x5 x6 x7 o) (hoy : ¬ mM y0 y1 y2 y3 y6 y7 y8 o) (hob : s.heap.size ≤ o)
    {n came MV th : Int} {F G SP RF RC : Int → Int} (hI : INV n came F G RF) {H : Heap} (hC : CW D cI s.heap.size x0 x1 x2 x5 x6 x7 n came MV F G SP RF RC H) (hM : MA D cI cZ s.heap.size y0 y1 y2 y3 y6 y7 y8 n came MV th F G SP RF RC H) {lf : Nat → Int64} (hO : OC D cJ o lf H) (hS : va_S (fun q : Nat => s.heap.size ≤ q) s.heap H []) {i : Int} (hi : 0 ≤ i ∧ i + 2 < L) {ls : Array Slot} (hl : lv_has ls 7 [(0, .ref b), (1, .ref x0), (2, .ref y0), (3, .ref o), (4, .int (iI i))]) {cells slots : Nat} (hc : cells + 1 ≤ 601024) (hs9 : slots + 6 ≤ 7293034)
    (K : ∀ (n came MV th : Int) (F G SP RF RC : Int → Int) (H : Heap) (lf : Nat → Int64) (ls : Array Slot), INV n came F G RF → CW D cI s.heap.size x0 x1 x2 x5 x6 x7 n came MV F G SP RF RC H → MA D cI cZ s.heap.size y0 y1 y2 y3 y6 y7 y8 n came MV th F G SP RF RC H → OC D cJ o lf H → va_S (fun q : Nat => s.heap.size ≤ q) s.heap H [] → lv_has ls 7 [(0, .ref b), (1, .ref x0), (2, .ref y0), (3, .ref o), (4, .int (iI i))] → W p l e room_1 s m #[Value.ref b] below meth c H [] (cells + 1) (slots + 6) (lw_Z below #[Value.ref b] s) (F0 m 1234 ls [])) : W p l e room_1 s m #[Value.ref b] below meth c H [] (cells) (slots) (lw_Z below #[Value.ref b] s) (F0 m 506 ls []) := by
  obtain ⟨hx, hb, hr, hml, hown, hts0, hX, hbl, hlocks, hgv⟩ := id C0
  have hts : ∀ w ∈ wsL_law, w.before #[Value.ref b] s = true := fun w h => hts0 w (wsL_law_in w h)
  have hbA : ¬ (fun q : Nat => s.heap.size ≤ q) b := Nat.not_le.mpr hbl
  have hSW := hSW0.keep (fun q h => hS.2.1 q h (Nat.not_le.mpr h))
  obtain ⟨hn, hcm, hF, hfc, hFi, hG, hs, hRI0⟩ := id hI
  have hRF := INV_RF hI
  obtain ⟨u, hur, hu⟩ := iI_of (xs (i + 1).toNat)
  have hrp := pl_PL (F := F) hn.1 u
  refine lv_aload_n hx hb dL_law_506 rfl (lv_at hl 1 rfl) ?_
  refine lv_aload_n hx hb dL_law_507 rfl (lv_at hl 0 rfl) ?_
  refine lv_iload hx hb dL_law_508 (lv_at hl 4 rfl) ?_
  refine pv_iconst hx hb dL_law_510 ?_
  refine pv_iadd hx hb dL_law_511 ?_
  refine pv_sld (v := u) hx hb hX hbl hbA hS (by omega) (by omega) hu dL_law_512 ?_
  refine pu_callV (v := if pl F n u = -1 then 0 else 1) (As := [.int (iI u)]) (rest := []) CP_mv ⟨hx, hb, hml, hown, hts⟩ (c_has l D cI cZ s.heap.size st Z x0 x1 x2 x5 x6 x7 hn hF u hur (pl F n u) hrp (if pl F n u = -1 then 0 else 1) rfl) (cwV 1 hts gL_law_X0_has rfl rfl rfl (by decide +kernel) ⟨(Nat.le_of_ble_eq_true rfl), (Nat.le_of_ble_eq_true rfl)⟩) ⟨hSW, hC⟩ (CP_rc ⟨hSW, hC⟩) rfl rfl hl.1 (Nat.le_of_ble_eq_true rfl) dL_law_513 ⟨by show cells + 0 ≤ 601024; omega, by show slots + 0 ≤ 7293034; omega⟩ ?_
  refine lv_aload_n hx hb dL_law_516 rfl (lv_at hl 2 rfl) ?_
  refine lv_aload_n hx hb dL_law_517 rfl (lv_at hl 0 rfl) ?_
  refine lv_iload hx hb dL_law_518 (lv_at hl 4 rfl) ?_
  refine pv_iconst hx hb dL_law_520 ?_
  refine pv_iadd hx hb dL_law_521 ?_
  refine pv_sld (v := u) hx hb hX hbl hbA hS (by omega) (by omega) hu dL_law_522 ?_
  refine mu_callV (As := [.int (iI u)]) (rest := [.int (iI (if pl F n u = -1 then 0 else 1))]) AP_mv ⟨hx, hb, hml, hown, hts⟩ (c_M_has l D cI cZ s.heap.size st Z y0 y1 y2 y3 y6 y7 y8 hn hF u hur (pl F n u) hrp (if pl F n u = -1 then 0 else 1) rfl) (cwV 1 hts gL_law_X1_has rfl rfl rfl (by decide +kernel) ⟨(Nat.le_of_ble_eq_true rfl), (Nat.le_of_ble_eq_true rfl)⟩) ⟨hSW, hM⟩ (AP_rc ⟨hSW, hM⟩) rfl rfl hl.1 (Nat.le_of_ble_eq_true rfl) dL_law_523 ⟨by show cells + 0 ≤ 601024; omega, by show slots + 0 ≤ 7293034; omega⟩ hS (MA_b hM) (fun H locs hP2 hz hk hS => ?_)
  have hC := CW_fr hC hk (fun q h z => hxy q h z)
  have hO := OC_fr hO hk hoy
  have hM := hP2
  try dsimp only at hM
  refine va_forget (fun q hq => hS.2.2 q hq) ?_
  have hS := va_S_nil hS
  have hSW := hSW0.keep (fun q h => hS.2.1 q h (Nat.not_le.mpr h))
  refine pv_same (tgt := 1234) hx hb dL_law_526 (by decide) ?_
  refine W.widen (k := cells + 1) (n := slots + 6) (by omega) (by omega) ?_
  exact K _ _ _ _ _ _ _ _ _ _ _ _ hI hC hM hO hS (lv_sub hl [0, 1, 2, 3, 4] rfl)
set_option maxHeartbeats 4000000 in
set_option maxRecDepth 100000 in
theorem arm_9 {p : Program} {e : Env} {s : State} {m : MethodId} {below : List Frame} {meth : Method} {c : Code} (l : Launch) (hfl : l.stackTraces = false) {b L : Nat} {xs : Nat → Int32} (hL : L ≤ 1536) (C0 : lw_At p s m meth c b L xs)
    {D : va_G} {cI cZ cJ : ClassId} {st : Nat} {Z : Nat → Nat} (hSW0 : SW D cI cZ s.heap.size st Z s s.heap) (hKJ : va_K D vwCl [(cJ, .long)] s) (hnc1 : va_Nc "java/lang/IllegalStateException" "java/lang/IndexOutOfBoundsException" s) (hnc2 : va_Nc "java/lang/IllegalArgumentException" "java/lang/IndexOutOfBoundsException" s)
    {x0 x1 x2 x5 x6 x7 y0 y1 y2 y3 y6 y7 y8 o : Nat} (hxy : ∀ q, mC x0 x1 x2 x5 x6 x7 q → ¬ mM y0 y1 y2 y3 y6 y7 y8 q) (hox : ¬ mC x0 x1 x2 x5 x6 x7 o) (hoy : ¬ mM y0 y1 y2 y3 y6 y7 y8 o) (hob : s.heap.size ≤ o)
    {n came MV th : Int} {F G SP RF RC : Int → Int} (hI : INV n came F G RF) {H : Heap} (hC : CW D cI s.heap.size x0 x1 x2 x5 x6 x7 n came MV F G SP RF RC H) (hM : MA D cI cZ s.heap.size y0 y1 y2 y3 y6 y7 y8 n came MV th F G SP RF RC H) {lf : Nat → Int64} (hO : OC D cJ o lf H) (hS : va_S (fun q : Nat => s.heap.size ≤ q) s.heap H []) {i : Int} (hi : 0 ≤ i ∧ i + 2 < L) {ls : Array Slot} (hl : lv_has ls 7 [(0, .ref b), (1, .ref x0), (2, .ref y0), (3, .ref o), (4, .int (iI i))]) {cells slots : Nat} (hc : cells + 1 ≤ 601024) (hs9 : slots + 6 ≤ 7293034)
    (K : ∀ (n came MV th : Int) (F G SP RF RC : Int → Int) (H : Heap) (lf : Nat → Int64) (ls : Array Slot), INV n came F G RF → CW D cI s.heap.size x0 x1 x2 x5 x6 x7 n came MV F G SP RF RC H → MA D cI cZ s.heap.size y0 y1 y2 y3 y6 y7 y8 n came MV th F G SP RF RC H → OC D cJ o lf H → va_S (fun q : Nat => s.heap.size ≤ q) s.heap H [] → lv_has ls 7 [(0, .ref b), (1, .ref x0), (2, .ref y0), (3, .ref o), (4, .int (iI i))] → W p l e room_1 s m #[Value.ref b] below meth c H [] (cells + 1) (slots + 6) (lw_Z below #[Value.ref b] s) (F0 m 1234 ls [])) : W p l e room_1 s m #[Value.ref b] below meth c H [] (cells) (slots) (lw_Z below #[Value.ref b] s) (F0 m 531 ls []) := by
  obtain ⟨hx, hb, hr, hml, hown, hts0, hX, hbl, hlocks, hgv⟩ := id C0
  have hts : ∀ w ∈ wsL_law, w.before #[Value.ref b] s = true := fun w h => hts0 w (wsL_law_in w h)
  have hbA : ¬ (fun q : Nat => s.heap.size ≤ q) b := Nat.not_le.mpr hbl
  have hSW := hSW0.keep (fun q h => hS.2.1 q h (Nat.not_le.mpr h))
  obtain ⟨hn, hcm, hF, hfc, hFi, hG, hs, hRI0⟩ := id hI
  have hRF := INV_RF hI
  obtain ⟨u, hur, hu⟩ := iI_of (xs (i + 1).toNat)
  by_cases h0 : 0 ≤ pl F n u
  · skip
    have hrp := pl_PL (F := F) hn.1 u
    obtain ⟨hp1, hp2, hp3⟩ := PL_p hrp h0
    refine lv_aload_n hx hb dL_law_531 rfl (lv_at hl 1 rfl) ?_
    refine lv_aload_n hx hb dL_law_532 rfl (lv_at hl 0 rfl) ?_
    refine lv_iload hx hb dL_law_533 (lv_at hl 4 rfl) ?_
    refine pv_iconst hx hb dL_law_535 ?_
    refine pv_iadd hx hb dL_law_536 ?_
    refine pv_sld (v := u) hx hb hX hbl hbA hS (by omega) (by omega) hu dL_law_537 ?_
    refine lv_aload_n hx hb dL_law_538 rfl (lv_at hl 3 rfl) ?_
    refine wr_call (As := [.ref x0, .int (iI u), .ref o]) (rest := []) WP_mv ⟨hx, hb, hml, hown, hts⟩ (w_mark l D cI cZ cJ s.heap.size st Z x0 x1 x2 x5 x6 x7 o hn hF u hur (pl F n u) hrp h0) (vx_cwSW 3 hts gL_law_L_mark rfl rfl rfl (by decide +kernel) ⟨(Nat.le_of_ble_eq_true rfl), (Nat.le_of_ble_eq_true rfl)⟩) ⟨⟨hSW, hC⟩, hKJ, ⟨lf, hO⟩, hox, hnc1, hnc2⟩ rfl rfl hl.1 (Nat.le_of_ble_eq_true rfl) dL_law_539 ⟨by show cells + 0 ≤ 601024; omega, by show slots + 0 ≤ 7293034; omega⟩ hS (fun q h => by rcases h with h | h; exact CW_b hC q h; rw [h]; exact hob) (fun H locs hP2 hz hk hS => ?_)
    obtain ⟨hC, lf, hv9, hO⟩ := hP2
    have hM := MA_fr hM hk (fun q h z => by rcases z with z | z; exact hxy q z h; exact hoy (by rw [← z]; exact h))
    refine va_forget (fun q hq => hS.2.2 q hq) ?_
    have hS := va_S_nil hS
    have hSW := hSW0.keep (fun q h => hS.2.1 q h (Nat.not_le.mpr h))
    refine W.widen (k := cells + 1) (n := slots + 6) (by omega) (by omega) ?_
    refine lv_istore (lv' := [(5, .int (iI 0)), (0, .ref b), (1, .ref x0), (2, .ref y0), (3, .ref o), (4, .int (iI i))]) hx hb dL_law_542 hl (by decide) rfl (fun ls hl => ?_)
    refine lv_aload_n hx hb dL_law_544 rfl (lv_at hl 3 rfl) ?_
    refine lv_aload_n hx hb dL_law_545 rfl (lv_at hl 1 rfl) ?_
    refine lv_iload hx hb dL_law_546 (lv_at hl 5 rfl) ?_
    refine pv_iconst hx hb dL_law_548 ?_
    refine pv_iadd hx hb dL_law_549 ?_
    refine pv_sld (v := u) hx hb hX hbl hbA hS (by omega) (by omega) hu dL_law_550 ?_
    refine mu_callV (As := [.int (iI u)]) (rest := []) AP_mv ⟨hx, hb, hml, hown, hts⟩ (c_M_mark l D cI cZ s.heap.size st Z y0 y1 y2 y3 y6 y7 y8 hn hF u hur (pl F n u) hrp h0) (cwV 1 hts gL_law_X1_mark rfl rfl rfl (by decide +kernel) ⟨(Nat.le_of_ble_eq_true rfl), (Nat.le_of_ble_eq_true rfl)⟩) ⟨hSW, hM⟩ (AP_rc ⟨hSW, hM⟩) rfl rfl hl.1 (Nat.le_of_ble_eq_true rfl) dL_law_551 ⟨by show cells + 1 + 0 ≤ 601024; omega, by show slots + 6 + 0 ≤ 7293034; omega⟩ hS (MA_b hM) (fun H locs hP2 hz hk hS => ?_)
    have hC := CW_fr hC hk (fun q h z => hxy q h z)
    have hO := OC_fr hO hk hoy
    have hM := hP2
    try dsimp only at hM
    refine va_forget (fun q hq => hS.2.2 q hq) ?_
    have hS := va_S_nil hS
    have hSW := hSW0.keep (fun q h => hS.2.1 q h (Nat.not_le.mpr h))
    refine lv_istore (lv' := [(6, .int (iI (G (pl F n u)))), (5, .int (iI 0)), (0, .ref b), (1, .ref x0), (2, .ref y0), (3, .ref o), (4, .int (iI i))]) hx hb dL_law_554 hl (by decide) rfl (fun ls hl => ?_)
    refine lv_aload_n hx hb dL_law_556 rfl (lv_at hl 4 rfl) ?_
    refine pu_callV (v := 0) (As := []) (rest := []) AP_mv ⟨hx, hb, hml, hown, hts⟩ (c_M_thrown l D cI cZ s.heap.size st Z y0 y1 y2 y3 y6 y7 y8) (cwV 0 hts gL_law_X1_thrown rfl rfl rfl (by decide +kernel) ⟨(Nat.le_of_ble_eq_true rfl), (Nat.le_of_ble_eq_true rfl)⟩) ⟨hSW, hM⟩ (AP_rc ⟨hSW, hM⟩) rfl rfl hl.1 (Nat.le_of_ble_eq_true rfl) dL_law_557 ⟨by show cells + 1 + 0 ≤ 601024; omega, by show slots + 6 + 0 ≤ 7293034; omega⟩ ?_
    refine lv_iload hx hb dL_law_560 (lv_at hl 1 rfl) ?_
    refine pv_same (tgt := 567) hx hb dL_law_562 (by decide) ?_
    refine lv_iload hx hb dL_law_567 (lv_at hl 1 rfl) ?_
    refine pv_if_ne (tgt := 584) hx hb dL_law_569 (by decide) (by omega) (fun c9 => ?_) (fun c9 => ?_)
    · exact absurd rfl c9
    refine lv_aload_n hx hb dL_law_572 rfl (lv_at hl 5 rfl) ?_
    refine pv_iconst hx hb dL_law_573 ?_
    refine pv_lald hx hb hKJ hO hv9 dL_law_574 ?_
    refine lv_iload hx hb dL_law_575 (lv_at hl 0 rfl) ?_
    refine lv_i2l (v := (iI (G (pl F n u))).toInt64) hx hb dL_law_577 rfl ?_
    refine W.lcmp hx hb dL_law_578 ?_
    rw [lg_cmp_s]
    refine pv_if_eq (tgt := 584) hx hb dL_law_579 (by decide) (by omega) (fun c9 => ?_) (fun c9 => absurd rfl c9)
    refine lv_goto (tgt := 1234) hx hb dL_law_584 (by decide) ?_
    exact K _ _ _ _ _ _ _ _ _ _ _ _ hI hC hM hO hS (lv_sub hl [2, 3, 4, 5, 6] rfl)
  · skip
    have hrp : PL F n u (-1) := by have h1 := pl_PL (F := F) hn.1 u; have h2 := PL_rg hn.1 h1; rw [show pl F n u = -1 by omega] at h1; exact h1
    refine lv_aload_n hx hb dL_law_531 rfl (lv_at hl 1 rfl) ?_
    refine lv_aload_n hx hb dL_law_532 rfl (lv_at hl 0 rfl) ?_
    refine lv_iload hx hb dL_law_533 (lv_at hl 4 rfl) ?_
    refine pv_iconst hx hb dL_law_535 ?_
    refine pv_iadd hx hb dL_law_536 ?_
    refine pv_sld (v := u) hx hb hX hbl hbA hS (by omega) (by omega) hu dL_law_537 ?_
    refine lv_aload_n hx hb dL_law_538 rfl (lv_at hl 3 rfl) ?_
    refine wr_call (As := [.ref x0, .int (iI u), .ref o]) (rest := []) WP_mv ⟨hx, hb, hml, hown, hts⟩ (v_mark l D cI cZ cJ s.heap.size st Z x0 x1 x2 x5 x6 x7 o hfl hn hF u hur hrp) (vx_cwSW 3 hts gL_law_L_mark rfl rfl rfl (by decide +kernel) ⟨(Nat.le_of_ble_eq_true rfl), (Nat.le_of_ble_eq_true rfl)⟩) ⟨⟨hSW, hC⟩, hKJ, ⟨lf, hO⟩, hox, hnc1, hnc2⟩ rfl rfl hl.1 (Nat.le_of_ble_eq_true rfl) dL_law_539 ⟨by show cells + 1 ≤ 601024; omega, by show slots + 6 ≤ 7293034; omega⟩ hS (fun q h => by rcases h with h | h; exact CW_b hC q h; rw [h]; exact hob) (fun H locs hP2 hz hk hS => ?_)
    obtain ⟨hC, lf, hO⟩ := hP2
    have hM := MA_fr hM hk (fun q h z => by rcases z with z | z; exact hxy q z h; exact hoy (by rw [← z]; exact h))
    refine va_forget (fun q hq => hS.2.2 q hq) ?_
    have hS := va_S_nil hS
    have hSW := hSW0.keep (fun q h => hS.2.1 q h (Nat.not_le.mpr h))
    refine W.widen (k := cells + 1) (n := slots + 6) (Nat.le_refl _) (Nat.le_refl _) ?_
    refine lv_istore (lv' := [(5, .int (iI 1)), (0, .ref b), (1, .ref x0), (2, .ref y0), (3, .ref o), (4, .int (iI i))]) hx hb dL_law_542 hl (by decide) rfl (fun ls hl => ?_)
    refine lv_aload_n hx hb dL_law_544 rfl (lv_at hl 3 rfl) ?_
    refine lv_aload_n hx hb dL_law_545 rfl (lv_at hl 1 rfl) ?_
    refine lv_iload hx hb dL_law_546 (lv_at hl 5 rfl) ?_
    refine pv_iconst hx hb dL_law_548 ?_
    refine pv_iadd hx hb dL_law_549 ?_
    refine pv_sld (v := u) hx hb hX hbl hbA hS (by omega) (by omega) hu dL_law_550 ?_
    refine mu_callV (As := [.int (iI u)]) (rest := []) AP_mv ⟨hx, hb, hml, hown, hts⟩ (d_M_mark l D cI cZ s.heap.size st Z y0 y1 y2 y3 y6 y7 y8 u hur hrp) (cwV 1 hts gL_law_X1_mark rfl rfl rfl (by decide +kernel) ⟨(Nat.le_of_ble_eq_true rfl), (Nat.le_of_ble_eq_true rfl)⟩) ⟨hSW, hM⟩ (AP_rc ⟨hSW, hM⟩) rfl rfl hl.1 (Nat.le_of_ble_eq_true rfl) dL_law_551 ⟨by show cells + 1 + 0 ≤ 601024; omega, by show slots + 6 + 0 ≤ 7293034; omega⟩ hS (MA_b hM) (fun H locs hP2 hz hk hS => ?_)
    have hC := CW_fr hC hk (fun q h z => hxy q h z)
    have hO := OC_fr hO hk hoy
    have hM := hP2
    try dsimp only at hM
    refine va_forget (fun q hq => hS.2.2 q hq) ?_
    have hS := va_S_nil hS
    have hSW := hSW0.keep (fun q h => hS.2.1 q h (Nat.not_le.mpr h))
    refine lv_istore (lv' := [(6, .int (iI (0))), (5, .int (iI 1)), (0, .ref b), (1, .ref x0), (2, .ref y0), (3, .ref o), (4, .int (iI i))]) hx hb dL_law_554 hl (by decide) rfl (fun ls hl => ?_)
    refine lv_aload_n hx hb dL_law_556 rfl (lv_at hl 4 rfl) ?_
    refine pu_callV (v := 1) (As := []) (rest := []) AP_mv ⟨hx, hb, hml, hown, hts⟩ (c_M_thrown l D cI cZ s.heap.size st Z y0 y1 y2 y3 y6 y7 y8) (cwV 0 hts gL_law_X1_thrown rfl rfl rfl (by decide +kernel) ⟨(Nat.le_of_ble_eq_true rfl), (Nat.le_of_ble_eq_true rfl)⟩) ⟨hSW, hM⟩ (AP_rc ⟨hSW, hM⟩) rfl rfl hl.1 (Nat.le_of_ble_eq_true rfl) dL_law_557 ⟨by show cells + 1 + 0 ≤ 601024; omega, by show slots + 6 + 0 ≤ 7293034; omega⟩ ?_
    refine lv_iload hx hb dL_law_560 (lv_at hl 1 rfl) ?_
    refine pv_same (tgt := 567) hx hb dL_law_562 (by decide) ?_
    refine lv_iload hx hb dL_law_567 (lv_at hl 1 rfl) ?_
    refine pv_if_ne (tgt := 584) hx hb dL_law_569 (by decide) (by omega) (fun c9 => ?_) (fun c9 => ?_)
    rotate_left
    · exact absurd c9 (by omega)
    refine lv_goto (tgt := 1234) hx hb dL_law_584 (by decide) ?_
    exact K _ _ _ _ _ _ _ _ _ _ _ _ hI hC hM hO hS (lv_sub hl [2, 3, 4, 5, 6] rfl)
set_option maxHeartbeats 4000000 in
set_option maxRecDepth 100000 in
theorem arm_10 {p : Program} {e : Env} {s : State} {m : MethodId} {below : List Frame} {meth : Method} {c : Code} (l : Launch) (hfl : l.stackTraces = false) {b L : Nat} {xs : Nat → Int32} (hL : L ≤ 1536) (C0 : lw_At p s m meth c b L xs)
    {D : va_G} {cI cZ cJ : ClassId} {st : Nat} {Z : Nat → Nat} (hSW0 : SW D cI cZ s.heap.size st Z s s.heap) (hKJ : va_K D vwCl [(cJ, .long)] s) (hnc1 : va_Nc "java/lang/IllegalStateException" "java/lang/IndexOutOfBoundsException" s) (hnc2 : va_Nc "java/lang/IllegalArgumentException" "java/lang/IndexOutOfBoundsException" s)
    {x0 x1 x2 x5 x6 x7 y0 y1 y2 y3 y6 y7 y8 o : Nat} (hxy : ∀ q, mC x0 x1 x2 x5 x6 x7 q → ¬ mM y0 y1 y2 y3 y6 y7 y8 q) (hox : ¬ mC x0 x1 x2 x5 x6 x7 o) (hoy : ¬ mM y0 y1 y2 y3 y6 y7 y8 o) (hob : s.heap.size ≤ o)
    {n came MV th : Int} {F G SP RF RC : Int → Int} (hI : INV n came F G RF) {H : Heap} (hC : CW D cI s.heap.size x0 x1 x2 x5 x6 x7 n came MV F G SP RF RC H) (hM : MA D cI cZ s.heap.size y0 y1 y2 y3 y6 y7 y8 n came MV th F G SP RF RC H) {lf : Nat → Int64} (hO : OC D cJ o lf H) (hS : va_S (fun q : Nat => s.heap.size ≤ q) s.heap H []) {i : Int} (hi : 0 ≤ i ∧ i + 2 < L) {ls : Array Slot} (hl : lv_has ls 7 [(0, .ref b), (1, .ref x0), (2, .ref y0), (3, .ref o), (4, .int (iI i))]) {cells slots : Nat} (hc : cells + 1 ≤ 601024) (hs9 : slots + 6 ≤ 7293034)
    (K : ∀ (n came MV th : Int) (F G SP RF RC : Int → Int) (H : Heap) (lf : Nat → Int64) (ls : Array Slot), INV n came F G RF → CW D cI s.heap.size x0 x1 x2 x5 x6 x7 n came MV F G SP RF RC H → MA D cI cZ s.heap.size y0 y1 y2 y3 y6 y7 y8 n came MV th F G SP RF RC H → OC D cJ o lf H → va_S (fun q : Nat => s.heap.size ≤ q) s.heap H [] → lv_has ls 7 [(0, .ref b), (1, .ref x0), (2, .ref y0), (3, .ref o), (4, .int (iI i))] → W p l e room_1 s m #[Value.ref b] below meth c H [] (cells + 1) (slots + 6) (lw_Z below #[Value.ref b] s) (F0 m 1234 ls [])) : W p l e room_1 s m #[Value.ref b] below meth c H [] (cells) (slots) (lw_Z below #[Value.ref b] s) (F0 m 587 ls []) := by
  obtain ⟨hx, hb, hr, hml, hown, hts0, hX, hbl, hlocks, hgv⟩ := id C0
  have hts : ∀ w ∈ wsL_law, w.before #[Value.ref b] s = true := fun w h => hts0 w (wsL_law_in w h)
  have hbA : ¬ (fun q : Nat => s.heap.size ≤ q) b := Nat.not_le.mpr hbl
  have hSW := hSW0.keep (fun q h => hS.2.1 q h (Nat.not_le.mpr h))
  obtain ⟨hn, hcm, hF, hfc, hFi, hG, hs, hRI0⟩ := id hI
  have hRF := INV_RF hI
  obtain ⟨u, hur, hu⟩ := iI_of (xs (i + 1).toNat)
  by_cases h0 : 0 ≤ pl F n u
  · skip
    have hrp := pl_PL (F := F) hn.1 u
    obtain ⟨hp1, hp2, hp3⟩ := PL_p hrp h0
    refine lv_aload_n hx hb dL_law_587 rfl (lv_at hl 1 rfl) ?_
    refine lv_aload_n hx hb dL_law_588 rfl (lv_at hl 0 rfl) ?_
    refine lv_iload hx hb dL_law_589 (lv_at hl 4 rfl) ?_
    refine pv_iconst hx hb dL_law_591 ?_
    refine pv_iadd hx hb dL_law_592 ?_
    refine pv_sld (v := u) hx hb hX hbl hbA hS (by omega) (by omega) hu dL_law_593 ?_
    refine lv_aload_n hx hb dL_law_594 rfl (lv_at hl 3 rfl) ?_
    refine wr_call (As := [.ref x0, .int (iI u), .ref o]) (rest := []) WP_mv ⟨hx, hb, hml, hown, hts⟩ (w_ahead l D cI cZ cJ s.heap.size st Z x0 x1 x2 x5 x6 x7 o hn hF u hur (pl F n u) hrp h0 hG hs) (vx_cwSW 3 hts gL_law_L_ahead rfl rfl rfl (by decide +kernel) ⟨(Nat.le_of_ble_eq_true rfl), (Nat.le_of_ble_eq_true rfl)⟩) ⟨⟨hSW, hC⟩, hKJ, ⟨lf, hO⟩, hox, hnc1, hnc2⟩ rfl rfl hl.1 (Nat.le_of_ble_eq_true rfl) dL_law_595 ⟨by show cells + 0 ≤ 601024; omega, by show slots + 0 ≤ 7293034; omega⟩ hS (fun q h => by rcases h with h | h; exact CW_b hC q h; rw [h]; exact hob) (fun H locs hP2 hz hk hS => ?_)
    obtain ⟨hC, lf, hv9, hO⟩ := hP2
    have hM := MA_fr hM hk (fun q h z => by rcases z with z | z; exact hxy q z h; exact hoy (by rw [← z]; exact h))
    refine va_forget (fun q hq => hS.2.2 q hq) ?_
    have hS := va_S_nil hS
    have hSW := hSW0.keep (fun q h => hS.2.1 q h (Nat.not_le.mpr h))
    refine W.widen (k := cells + 1) (n := slots + 6) (by omega) (by omega) ?_
    refine lv_istore (lv' := [(5, .int (iI 0)), (0, .ref b), (1, .ref x0), (2, .ref y0), (3, .ref o), (4, .int (iI i))]) hx hb dL_law_598 hl (by decide) rfl (fun ls hl => ?_)
    refine lv_aload_n hx hb dL_law_600 rfl (lv_at hl 3 rfl) ?_
    refine lv_aload_n hx hb dL_law_601 rfl (lv_at hl 1 rfl) ?_
    refine lv_iload hx hb dL_law_602 (lv_at hl 5 rfl) ?_
    refine pv_iconst hx hb dL_law_604 ?_
    refine pv_iadd hx hb dL_law_605 ?_
    refine pv_sld (v := u) hx hb hX hbl hbA hS (by omega) (by omega) hu dL_law_606 ?_
    refine mu_callV (As := [.int (iI u)]) (rest := []) AP_mv ⟨hx, hb, hml, hown, hts⟩ (c_M_ahead l D cI cZ s.heap.size st Z y0 y1 y2 y3 y6 y7 y8 hn hF u hur (pl F n u) hrp h0 hG hs) (cwV 1 hts gL_law_X1_ahead rfl rfl rfl (by decide +kernel) ⟨(Nat.le_of_ble_eq_true rfl), (Nat.le_of_ble_eq_true rfl)⟩) ⟨hSW, hM⟩ (AP_rc ⟨hSW, hM⟩) rfl rfl hl.1 (Nat.le_of_ble_eq_true rfl) dL_law_607 ⟨by show cells + 1 + 0 ≤ 601024; omega, by show slots + 6 + 0 ≤ 7293034; omega⟩ hS (MA_b hM) (fun H locs hP2 hz hk hS => ?_)
    have hC := CW_fr hC hk (fun q h z => hxy q h z)
    have hO := OC_fr hO hk hoy
    have hM := hP2
    try dsimp only at hM
    refine va_forget (fun q hq => hS.2.2 q hq) ?_
    have hS := va_S_nil hS
    have hSW := hSW0.keep (fun q h => hS.2.1 q h (Nat.not_le.mpr h))
    refine lv_istore (lv' := [(6, .int (iI (mb G n (G (pl F n u))))), (5, .int (iI 0)), (0, .ref b), (1, .ref x0), (2, .ref y0), (3, .ref o), (4, .int (iI i))]) hx hb dL_law_610 hl (by decide) rfl (fun ls hl => ?_)
    refine lv_aload_n hx hb dL_law_612 rfl (lv_at hl 4 rfl) ?_
    refine pu_callV (v := 0) (As := []) (rest := []) AP_mv ⟨hx, hb, hml, hown, hts⟩ (c_M_thrown l D cI cZ s.heap.size st Z y0 y1 y2 y3 y6 y7 y8) (cwV 0 hts gL_law_X1_thrown rfl rfl rfl (by decide +kernel) ⟨(Nat.le_of_ble_eq_true rfl), (Nat.le_of_ble_eq_true rfl)⟩) ⟨hSW, hM⟩ (AP_rc ⟨hSW, hM⟩) rfl rfl hl.1 (Nat.le_of_ble_eq_true rfl) dL_law_613 ⟨by show cells + 1 + 0 ≤ 601024; omega, by show slots + 6 + 0 ≤ 7293034; omega⟩ ?_
    refine lv_iload hx hb dL_law_616 (lv_at hl 1 rfl) ?_
    refine pv_same (tgt := 623) hx hb dL_law_618 (by decide) ?_
    refine lv_iload hx hb dL_law_623 (lv_at hl 1 rfl) ?_
    refine pv_if_ne (tgt := 640) hx hb dL_law_625 (by decide) (by omega) (fun c9 => ?_) (fun c9 => ?_)
    · exact absurd rfl c9
    refine lv_aload_n hx hb dL_law_628 rfl (lv_at hl 5 rfl) ?_
    refine pv_iconst hx hb dL_law_629 ?_
    refine pv_lald hx hb hKJ hO hv9 dL_law_630 ?_
    refine lv_iload hx hb dL_law_631 (lv_at hl 0 rfl) ?_
    refine lv_i2l (v := (iI (mb G n (G (pl F n u)))).toInt64) hx hb dL_law_633 rfl ?_
    refine W.lcmp hx hb dL_law_634 ?_
    rw [lg_cmp_s]
    refine pv_if_eq (tgt := 640) hx hb dL_law_635 (by decide) (by omega) (fun c9 => ?_) (fun c9 => absurd rfl c9)
    refine lv_goto (tgt := 1234) hx hb dL_law_640 (by decide) ?_
    exact K _ _ _ _ _ _ _ _ _ _ _ _ hI hC hM hO hS (lv_sub hl [2, 3, 4, 5, 6] rfl)
  · skip
    have hrp : PL F n u (-1) := by have h1 := pl_PL (F := F) hn.1 u; have h2 := PL_rg hn.1 h1; rw [show pl F n u = -1 by omega] at h1; exact h1
    refine lv_aload_n hx hb dL_law_587 rfl (lv_at hl 1 rfl) ?_
    refine lv_aload_n hx hb dL_law_588 rfl (lv_at hl 0 rfl) ?_
    refine lv_iload hx hb dL_law_589 (lv_at hl 4 rfl) ?_
    refine pv_iconst hx hb dL_law_591 ?_
    refine pv_iadd hx hb dL_law_592 ?_
    refine pv_sld (v := u) hx hb hX hbl hbA hS (by omega) (by omega) hu dL_law_593 ?_
    refine lv_aload_n hx hb dL_law_594 rfl (lv_at hl 3 rfl) ?_
    refine wr_call (As := [.ref x0, .int (iI u), .ref o]) (rest := []) WP_mv ⟨hx, hb, hml, hown, hts⟩ (v_ahead l D cI cZ cJ s.heap.size st Z x0 x1 x2 x5 x6 x7 o hfl hn hF u hur hrp) (vx_cwSW 3 hts gL_law_L_ahead rfl rfl rfl (by decide +kernel) ⟨(Nat.le_of_ble_eq_true rfl), (Nat.le_of_ble_eq_true rfl)⟩) ⟨⟨hSW, hC⟩, hKJ, ⟨lf, hO⟩, hox, hnc1, hnc2⟩ rfl rfl hl.1 (Nat.le_of_ble_eq_true rfl) dL_law_595 ⟨by show cells + 1 ≤ 601024; omega, by show slots + 6 ≤ 7293034; omega⟩ hS (fun q h => by rcases h with h | h; exact CW_b hC q h; rw [h]; exact hob) (fun H locs hP2 hz hk hS => ?_)
    obtain ⟨hC, lf, hO⟩ := hP2
    have hM := MA_fr hM hk (fun q h z => by rcases z with z | z; exact hxy q z h; exact hoy (by rw [← z]; exact h))
    refine va_forget (fun q hq => hS.2.2 q hq) ?_
    have hS := va_S_nil hS
    have hSW := hSW0.keep (fun q h => hS.2.1 q h (Nat.not_le.mpr h))
    refine W.widen (k := cells + 1) (n := slots + 6) (Nat.le_refl _) (Nat.le_refl _) ?_
    refine lv_istore (lv' := [(5, .int (iI 1)), (0, .ref b), (1, .ref x0), (2, .ref y0), (3, .ref o), (4, .int (iI i))]) hx hb dL_law_598 hl (by decide) rfl (fun ls hl => ?_)
    refine lv_aload_n hx hb dL_law_600 rfl (lv_at hl 3 rfl) ?_
    refine lv_aload_n hx hb dL_law_601 rfl (lv_at hl 1 rfl) ?_
    refine lv_iload hx hb dL_law_602 (lv_at hl 5 rfl) ?_
    refine pv_iconst hx hb dL_law_604 ?_
    refine pv_iadd hx hb dL_law_605 ?_
    refine pv_sld (v := u) hx hb hX hbl hbA hS (by omega) (by omega) hu dL_law_606 ?_
    refine mu_callV (As := [.int (iI u)]) (rest := []) AP_mv ⟨hx, hb, hml, hown, hts⟩ (d_M_ahead l D cI cZ s.heap.size st Z y0 y1 y2 y3 y6 y7 y8 u hur hrp) (cwV 1 hts gL_law_X1_ahead rfl rfl rfl (by decide +kernel) ⟨(Nat.le_of_ble_eq_true rfl), (Nat.le_of_ble_eq_true rfl)⟩) ⟨hSW, hM⟩ (AP_rc ⟨hSW, hM⟩) rfl rfl hl.1 (Nat.le_of_ble_eq_true rfl) dL_law_607 ⟨by show cells + 1 + 0 ≤ 601024; omega, by show slots + 6 + 0 ≤ 7293034; omega⟩ hS (MA_b hM) (fun H locs hP2 hz hk hS => ?_)
    have hC := CW_fr hC hk (fun q h z => hxy q h z)
    have hO := OC_fr hO hk hoy
    have hM := hP2
    try dsimp only at hM
    refine va_forget (fun q hq => hS.2.2 q hq) ?_
    have hS := va_S_nil hS
    have hSW := hSW0.keep (fun q h => hS.2.1 q h (Nat.not_le.mpr h))
    refine lv_istore (lv' := [(6, .int (iI (0))), (5, .int (iI 1)), (0, .ref b), (1, .ref x0), (2, .ref y0), (3, .ref o), (4, .int (iI i))]) hx hb dL_law_610 hl (by decide) rfl (fun ls hl => ?_)
    refine lv_aload_n hx hb dL_law_612 rfl (lv_at hl 4 rfl) ?_
    refine pu_callV (v := 1) (As := []) (rest := []) AP_mv ⟨hx, hb, hml, hown, hts⟩ (c_M_thrown l D cI cZ s.heap.size st Z y0 y1 y2 y3 y6 y7 y8) (cwV 0 hts gL_law_X1_thrown rfl rfl rfl (by decide +kernel) ⟨(Nat.le_of_ble_eq_true rfl), (Nat.le_of_ble_eq_true rfl)⟩) ⟨hSW, hM⟩ (AP_rc ⟨hSW, hM⟩) rfl rfl hl.1 (Nat.le_of_ble_eq_true rfl) dL_law_613 ⟨by show cells + 1 + 0 ≤ 601024; omega, by show slots + 6 + 0 ≤ 7293034; omega⟩ ?_
    refine lv_iload hx hb dL_law_616 (lv_at hl 1 rfl) ?_
    refine pv_same (tgt := 623) hx hb dL_law_618 (by decide) ?_
    refine lv_iload hx hb dL_law_623 (lv_at hl 1 rfl) ?_
    refine pv_if_ne (tgt := 640) hx hb dL_law_625 (by decide) (by omega) (fun c9 => ?_) (fun c9 => ?_)
    rotate_left
    · exact absurd c9 (by omega)
    refine lv_goto (tgt := 1234) hx hb dL_law_640 (by decide) ?_
    exact K _ _ _ _ _ _ _ _ _ _ _ _ hI hC hM hO hS (lv_sub hl [2, 3, 4, 5, 6] rfl)
set_option maxHeartbeats 4000000 in
set_option maxRecDepth 100000 in
theorem arm_11 {p : Program} {e : Env} {s : State} {m : MethodId} {below : List Frame} {meth : Method} {c : Code} (l : Launch) (hfl : l.stackTraces = false) {b L : Nat} {xs : Nat → Int32} (hL : L ≤ 1536) (C0 : lw_At p s m meth c b L xs)
    {D : va_G} {cI cZ cJ : ClassId} {st : Nat} {Z : Nat → Nat} (hSW0 : SW D cI cZ s.heap.size st Z s s.heap) (hKJ : va_K D vwCl [(cJ, .long)] s) (hnc1 : va_Nc "java/lang/IllegalStateException" "java/lang/IndexOutOfBoundsException" s) (hnc2 : va_Nc "java/lang/IllegalArgumentException" "java/lang/IndexOutOfBoundsException" s)
    {x0 x1 x2 x5 x6 x7 y0 y1 y2 y3 y6 y7 y8 o : Nat} (hxy : ∀ q, mC x0 x1 x2 x5 x6 x7 q → ¬ mM y0 y1 y2 y3 y6 y7 y8 q) (hox : ¬ mC x0 x1 x2 x5 x6 x7 o) (hoy : ¬ mM y0 y1 y2 y3 y6 y7 y8 o) (hob : s.heap.size ≤ o)
    {n came MV th : Int} {F G SP RF RC : Int → Int} (hI : INV n came F G RF) {H : Heap} (hC : CW D cI s.heap.size x0 x1 x2 x5 x6 x7 n came MV F G SP RF RC H) (hM : MA D cI cZ s.heap.size y0 y1 y2 y3 y6 y7 y8 n came MV th F G SP RF RC H) {lf : Nat → Int64} (hO : OC D cJ o lf H) (hS : va_S (fun q : Nat => s.heap.size ≤ q) s.heap H []) {i : Int} (hi : 0 ≤ i ∧ i + 2 < L) {ls : Array Slot} (hl : lv_has ls 7 [(0, .ref b), (1, .ref x0), (2, .ref y0), (3, .ref o), (4, .int (iI i))]) {cells slots : Nat} (hc : cells + 1 ≤ 601024) (hs9 : slots + 6 ≤ 7293034)
    (K : ∀ (n came MV th : Int) (F G SP RF RC : Int → Int) (H : Heap) (lf : Nat → Int64) (ls : Array Slot), INV n came F G RF → CW D cI s.heap.size x0 x1 x2 x5 x6 x7 n came MV F G SP RF RC H → MA D cI cZ s.heap.size y0 y1 y2 y3 y6 y7 y8 n came MV th F G SP RF RC H → OC D cJ o lf H → va_S (fun q : Nat => s.heap.size ≤ q) s.heap H [] → lv_has ls 7 [(0, .ref b), (1, .ref x0), (2, .ref y0), (3, .ref o), (4, .int (iI i))] → W p l e room_1 s m #[Value.ref b] below meth c H [] (cells + 1) (slots + 6) (lw_Z below #[Value.ref b] s) (F0 m 1234 ls [])) : W p l e room_1 s m #[Value.ref b] below meth c H [] (cells) (slots) (lw_Z below #[Value.ref b] s) (F0 m 643 ls []) := by
  obtain ⟨hx, hb, hr, hml, hown, hts0, hX, hbl, hlocks, hgv⟩ := id C0
  have hts : ∀ w ∈ wsL_law, w.before #[Value.ref b] s = true := fun w h => hts0 w (wsL_law_in w h)
  have hbA : ¬ (fun q : Nat => s.heap.size ≤ q) b := Nat.not_le.mpr hbl
  have hSW := hSW0.keep (fun q h => hS.2.1 q h (Nat.not_le.mpr h))
  obtain ⟨hn, hcm, hF, hfc, hFi, hG, hs, hRI0⟩ := id hI
  have hRF := INV_RF hI
  obtain ⟨u, hur, hu⟩ := iI_of (xs (i + 1).toNat)
  refine lv_aload_n hx hb dL_law_643 rfl (lv_at hl 1 rfl) ?_
  refine lv_aload_n hx hb dL_law_644 rfl (lv_at hl 0 rfl) ?_
  refine lv_iload hx hb dL_law_645 (lv_at hl 4 rfl) ?_
  refine pv_iconst hx hb dL_law_647 ?_
  refine pv_iadd hx hb dL_law_648 ?_
  refine pv_sld (v := u) hx hb hX hbl hbA hS (by omega) (by omega) hu dL_law_649 ?_
  refine pu_callV (v := fa F n (mb G n u)) (As := [.int (iI u)]) (rest := []) CP_mv ⟨hx, hb, hml, hown, hts⟩ (c_from l D cI cZ s.heap.size st Z x0 x1 x2 x5 x6 x7 hn hG hs u hur) (cwV 1 hts gL_law_X0_from rfl rfl rfl (by decide +kernel) ⟨(Nat.le_of_ble_eq_true rfl), (Nat.le_of_ble_eq_true rfl)⟩) ⟨hSW, hC⟩ (CP_rc ⟨hSW, hC⟩) rfl rfl hl.1 (Nat.le_of_ble_eq_true rfl) dL_law_650 ⟨by show cells + 0 ≤ 601024; omega, by show slots + 0 ≤ 7293034; omega⟩ ?_
  refine lv_aload_n hx hb dL_law_653 rfl (lv_at hl 2 rfl) ?_
  refine lv_aload_n hx hb dL_law_654 rfl (lv_at hl 0 rfl) ?_
  refine lv_iload hx hb dL_law_655 (lv_at hl 4 rfl) ?_
  refine pv_iconst hx hb dL_law_657 ?_
  refine pv_iadd hx hb dL_law_658 ?_
  refine pv_sld (v := u) hx hb hX hbl hbA hS (by omega) (by omega) hu dL_law_659 ?_
  refine mu_callV (As := [.int (iI u)]) (rest := [.int (iI (fa F n (mb G n u)))]) AP_mv ⟨hx, hb, hml, hown, hts⟩ (c_M_from l D cI cZ s.heap.size st Z y0 y1 y2 y3 y6 y7 y8 hn hF hG hs u hur) (cwV 1 hts gL_law_X1_from rfl rfl rfl (by decide +kernel) ⟨(Nat.le_of_ble_eq_true rfl), (Nat.le_of_ble_eq_true rfl)⟩) ⟨hSW, hM⟩ (AP_rc ⟨hSW, hM⟩) rfl rfl hl.1 (Nat.le_of_ble_eq_true rfl) dL_law_660 ⟨by show cells + 0 ≤ 601024; omega, by show slots + 0 ≤ 7293034; omega⟩ hS (MA_b hM) (fun H locs hP2 hz hk hS => ?_)
  have hC := CW_fr hC hk (fun q h z => hxy q h z)
  have hO := OC_fr hO hk hoy
  have hM := hP2
  try dsimp only at hM
  refine va_forget (fun q hq => hS.2.2 q hq) ?_
  have hS := va_S_nil hS
  have hSW := hSW0.keep (fun q h => hS.2.1 q h (Nat.not_le.mpr h))
  refine pv_same (tgt := 1234) hx hb dL_law_663 (by decide) ?_
  refine W.widen (k := cells + 1) (n := slots + 6) (by omega) (by omega) ?_
  exact K _ _ _ _ _ _ _ _ _ _ _ _ hI hC hM hO hS (lv_sub hl [0, 1, 2, 3, 4] rfl)
set_option maxHeartbeats 4000000 in
set_option maxRecDepth 100000 in
theorem arm_12 {p : Program} {e : Env} {s : State} {m : MethodId} {below : List Frame} {meth : Method} {c : Code} (l : Launch) (hfl : l.stackTraces = false) {b L : Nat} {xs : Nat → Int32} (hL : L ≤ 1536) (C0 : lw_At p s m meth c b L xs)
    {D : va_G} {cI cZ cJ : ClassId} {st : Nat} {Z : Nat → Nat} (hSW0 : SW D cI cZ s.heap.size st Z s s.heap) (hKJ : va_K D vwCl [(cJ, .long)] s) (hnc1 : va_Nc "java/lang/IllegalStateException" "java/lang/IndexOutOfBoundsException" s) (hnc2 : va_Nc "java/lang/IllegalArgumentException" "java/lang/IndexOutOfBoundsException" s)
    {x0 x1 x2 x5 x6 x7 y0 y1 y2 y3 y6 y7 y8 o : Nat} (hxy : ∀ q, mC x0 x1 x2 x5 x6 x7 q → ¬ mM y0 y1 y2 y3 y6 y7 y8 q) (hox : ¬ mC x0 x1 x2 x5 x6 x7 o) (hoy : ¬ mM y0 y1 y2 y3 y6 y7 y8 o) (hob : s.heap.size ≤ o)
    {n came MV th : Int} {F G SP RF RC : Int → Int} (hI : INV n came F G RF) {H : Heap} (hC : CW D cI s.heap.size x0 x1 x2 x5 x6 x7 n came MV F G SP RF RC H) (hM : MA D cI cZ s.heap.size y0 y1 y2 y3 y6 y7 y8 n came MV th F G SP RF RC H) {lf : Nat → Int64} (hO : OC D cJ o lf H) (hS : va_S (fun q : Nat => s.heap.size ≤ q) s.heap H []) {i : Int} (hi : 0 ≤ i ∧ i + 2 < L) {ls : Array Slot} (hl : lv_has ls 7 [(0, .ref b), (1, .ref x0), (2, .ref y0), (3, .ref o), (4, .int (iI i))]) {cells slots : Nat} (hc : cells + 1 ≤ 601024) (hs9 : slots + 6 ≤ 7293034)
    (K : ∀ (n came MV th : Int) (F G SP RF RC : Int → Int) (H : Heap) (lf : Nat → Int64) (ls : Array Slot), INV n came F G RF → CW D cI s.heap.size x0 x1 x2 x5 x6 x7 n came MV F G SP RF RC H → MA D cI cZ s.heap.size y0 y1 y2 y3 y6 y7 y8 n came MV th F G SP RF RC H → OC D cJ o lf H → va_S (fun q : Nat => s.heap.size ≤ q) s.heap H [] → lv_has ls 7 [(0, .ref b), (1, .ref x0), (2, .ref y0), (3, .ref o), (4, .int (iI i))] → W p l e room_1 s m #[Value.ref b] below meth c H [] (cells + 1) (slots + 6) (lw_Z below #[Value.ref b] s) (F0 m 1234 ls [])) : W p l e room_1 s m #[Value.ref b] below meth c H [] (cells) (slots) (lw_Z below #[Value.ref b] s) (F0 m 668 ls []) := by
  obtain ⟨hx, hb, hr, hml, hown, hts0, hX, hbl, hlocks, hgv⟩ := id C0
  have hts : ∀ w ∈ wsL_law, w.before #[Value.ref b] s = true := fun w h => hts0 w (wsL_law_in w h)
  have hbA : ¬ (fun q : Nat => s.heap.size ≤ q) b := Nat.not_le.mpr hbl
  have hSW := hSW0.keep (fun q h => hS.2.1 q h (Nat.not_le.mpr h))
  obtain ⟨hn, hcm, hF, hfc, hFi, hG, hs, hRI0⟩ := id hI
  have hRF := INV_RF hI
  obtain ⟨u, hur, hu⟩ := iI_of (xs (i + 1).toNat)
  by_cases h0 : 0 ≤ pl F n u
  · skip
    have hrp := pl_PL (F := F) hn.1 u
    obtain ⟨hp1, hp2, hp3⟩ := PL_p hrp h0
    refine lv_aload_n hx hb dL_law_668 rfl (lv_at hl 1 rfl) ?_
    refine lv_aload_n hx hb dL_law_669 rfl (lv_at hl 0 rfl) ?_
    refine lv_iload hx hb dL_law_670 (lv_at hl 4 rfl) ?_
    refine pv_iconst hx hb dL_law_672 ?_
    refine pv_iadd hx hb dL_law_673 ?_
    refine pv_sld (v := u) hx hb hX hbl hbA hS (by omega) (by omega) hu dL_law_674 ?_
    refine lv_aload_n hx hb dL_law_675 rfl (lv_at hl 3 rfl) ?_
    refine wr_call (As := [.ref x0, .int (iI u), .ref o]) (rest := []) WP_mv ⟨hx, hb, hml, hown, hts⟩ (w_gapBehind l D cI cZ cJ s.heap.size st Z x0 x1 x2 x5 x6 x7 o hn hF u hur (pl F n u) hrp h0 hG) (vx_cwSW 3 hts gL_law_L_gapBehind rfl rfl rfl (by decide +kernel) ⟨(Nat.le_of_ble_eq_true rfl), (Nat.le_of_ble_eq_true rfl)⟩) ⟨⟨hSW, hC⟩, hKJ, ⟨lf, hO⟩, hox, hnc1, hnc2⟩ rfl rfl hl.1 (Nat.le_of_ble_eq_true rfl) dL_law_676 ⟨by show cells + 0 ≤ 601024; omega, by show slots + 0 ≤ 7293034; omega⟩ hS (fun q h => by rcases h with h | h; exact CW_b hC q h; rw [h]; exact hob) (fun H locs hP2 hz hk hS => ?_)
    obtain ⟨hC, lf, hv9, hO⟩ := hP2
    have hM := MA_fr hM hk (fun q h z => by rcases z with z | z; exact hxy q z h; exact hoy (by rw [← z]; exact h))
    refine va_forget (fun q hq => hS.2.2 q hq) ?_
    have hS := va_S_nil hS
    have hSW := hSW0.keep (fun q h => hS.2.1 q h (Nat.not_le.mpr h))
    refine W.widen (k := cells + 1) (n := slots + 6) (by omega) (by omega) ?_
    refine lv_istore (lv' := [(5, .int (iI 0)), (0, .ref b), (1, .ref x0), (2, .ref y0), (3, .ref o), (4, .int (iI i))]) hx hb dL_law_679 hl (by decide) rfl (fun ls hl => ?_)
    refine lv_aload_n hx hb dL_law_681 rfl (lv_at hl 3 rfl) ?_
    refine lv_aload_n hx hb dL_law_682 rfl (lv_at hl 1 rfl) ?_
    refine lv_iload hx hb dL_law_683 (lv_at hl 5 rfl) ?_
    refine pv_iconst hx hb dL_law_685 ?_
    refine pv_iadd hx hb dL_law_686 ?_
    refine pv_sld (v := u) hx hb hX hbl hbA hS (by omega) (by omega) hu dL_law_687 ?_
    refine mu_callV (As := [.int (iI u)]) (rest := []) AP_mv ⟨hx, hb, hml, hown, hts⟩ (c_M_gapBehind l D cI cZ s.heap.size st Z y0 y1 y2 y3 y6 y7 y8 hn hF u hur (pl F n u) hrp h0 hG) (cwV 1 hts gL_law_X1_gapBehind rfl rfl rfl (by decide +kernel) ⟨(Nat.le_of_ble_eq_true rfl), (Nat.le_of_ble_eq_true rfl)⟩) ⟨hSW, hM⟩ (AP_rc ⟨hSW, hM⟩) rfl rfl hl.1 (Nat.le_of_ble_eq_true rfl) dL_law_688 ⟨by show cells + 1 + 0 ≤ 601024; omega, by show slots + 6 + 0 ≤ 7293034; omega⟩ hS (MA_b hM) (fun H locs hP2 hz hk hS => ?_)
    have hC := CW_fr hC hk (fun q h z => hxy q h z)
    have hO := OC_fr hO hk hoy
    have hM := hP2
    try dsimp only at hM
    refine va_forget (fun q hq => hS.2.2 q hq) ?_
    have hS := va_S_nil hS
    have hSW := hSW0.keep (fun q h => hS.2.1 q h (Nat.not_le.mpr h))
    refine lv_istore (lv' := [(6, .int (iI (ma G n (pl F n u + 1) - G (pl F n u) - 1))), (5, .int (iI 0)), (0, .ref b), (1, .ref x0), (2, .ref y0), (3, .ref o), (4, .int (iI i))]) hx hb dL_law_691 hl (by decide) rfl (fun ls hl => ?_)
    refine lv_aload_n hx hb dL_law_693 rfl (lv_at hl 4 rfl) ?_
    refine pu_callV (v := 0) (As := []) (rest := []) AP_mv ⟨hx, hb, hml, hown, hts⟩ (c_M_thrown l D cI cZ s.heap.size st Z y0 y1 y2 y3 y6 y7 y8) (cwV 0 hts gL_law_X1_thrown rfl rfl rfl (by decide +kernel) ⟨(Nat.le_of_ble_eq_true rfl), (Nat.le_of_ble_eq_true rfl)⟩) ⟨hSW, hM⟩ (AP_rc ⟨hSW, hM⟩) rfl rfl hl.1 (Nat.le_of_ble_eq_true rfl) dL_law_694 ⟨by show cells + 1 + 0 ≤ 601024; omega, by show slots + 6 + 0 ≤ 7293034; omega⟩ ?_
    refine lv_iload hx hb dL_law_697 (lv_at hl 1 rfl) ?_
    refine pv_same (tgt := 704) hx hb dL_law_699 (by decide) ?_
    refine lv_iload hx hb dL_law_704 (lv_at hl 1 rfl) ?_
    refine pv_if_ne (tgt := 721) hx hb dL_law_706 (by decide) (by omega) (fun c9 => ?_) (fun c9 => ?_)
    · exact absurd rfl c9
    refine lv_aload_n hx hb dL_law_709 rfl (lv_at hl 5 rfl) ?_
    refine pv_iconst hx hb dL_law_710 ?_
    refine pv_lald hx hb hKJ hO hv9 dL_law_711 ?_
    refine lv_iload hx hb dL_law_712 (lv_at hl 0 rfl) ?_
    refine lv_i2l (v := (iI (ma G n (pl F n u + 1) - G (pl F n u) - 1)).toInt64) hx hb dL_law_714 rfl ?_
    refine W.lcmp hx hb dL_law_715 ?_
    rw [lg_cmp_s]
    refine pv_if_eq (tgt := 721) hx hb dL_law_716 (by decide) (by omega) (fun c9 => ?_) (fun c9 => absurd rfl c9)
    refine lv_goto (tgt := 1234) hx hb dL_law_721 (by decide) ?_
    exact K _ _ _ _ _ _ _ _ _ _ _ _ hI hC hM hO hS (lv_sub hl [2, 3, 4, 5, 6] rfl)
  · skip
    have hrp : PL F n u (-1) := by have h1 := pl_PL (F := F) hn.1 u; have h2 := PL_rg hn.1 h1; rw [show pl F n u = -1 by omega] at h1; exact h1
    refine lv_aload_n hx hb dL_law_668 rfl (lv_at hl 1 rfl) ?_
    refine lv_aload_n hx hb dL_law_669 rfl (lv_at hl 0 rfl) ?_
    refine lv_iload hx hb dL_law_670 (lv_at hl 4 rfl) ?_
    refine pv_iconst hx hb dL_law_672 ?_
    refine pv_iadd hx hb dL_law_673 ?_
    refine pv_sld (v := u) hx hb hX hbl hbA hS (by omega) (by omega) hu dL_law_674 ?_
    refine lv_aload_n hx hb dL_law_675 rfl (lv_at hl 3 rfl) ?_
    refine wr_call (As := [.ref x0, .int (iI u), .ref o]) (rest := []) WP_mv ⟨hx, hb, hml, hown, hts⟩ (v_gapBehind l D cI cZ cJ s.heap.size st Z x0 x1 x2 x5 x6 x7 o hfl hn hF u hur hrp) (vx_cwSW 3 hts gL_law_L_gapBehind rfl rfl rfl (by decide +kernel) ⟨(Nat.le_of_ble_eq_true rfl), (Nat.le_of_ble_eq_true rfl)⟩) ⟨⟨hSW, hC⟩, hKJ, ⟨lf, hO⟩, hox, hnc1, hnc2⟩ rfl rfl hl.1 (Nat.le_of_ble_eq_true rfl) dL_law_676 ⟨by show cells + 1 ≤ 601024; omega, by show slots + 6 ≤ 7293034; omega⟩ hS (fun q h => by rcases h with h | h; exact CW_b hC q h; rw [h]; exact hob) (fun H locs hP2 hz hk hS => ?_)
    obtain ⟨hC, lf, hO⟩ := hP2
    have hM := MA_fr hM hk (fun q h z => by rcases z with z | z; exact hxy q z h; exact hoy (by rw [← z]; exact h))
    refine va_forget (fun q hq => hS.2.2 q hq) ?_
    have hS := va_S_nil hS
    have hSW := hSW0.keep (fun q h => hS.2.1 q h (Nat.not_le.mpr h))
    refine W.widen (k := cells + 1) (n := slots + 6) (Nat.le_refl _) (Nat.le_refl _) ?_
    refine lv_istore (lv' := [(5, .int (iI 1)), (0, .ref b), (1, .ref x0), (2, .ref y0), (3, .ref o), (4, .int (iI i))]) hx hb dL_law_679 hl (by decide) rfl (fun ls hl => ?_)
    refine lv_aload_n hx hb dL_law_681 rfl (lv_at hl 3 rfl) ?_
    refine lv_aload_n hx hb dL_law_682 rfl (lv_at hl 1 rfl) ?_
    refine lv_iload hx hb dL_law_683 (lv_at hl 5 rfl) ?_
    refine pv_iconst hx hb dL_law_685 ?_
    refine pv_iadd hx hb dL_law_686 ?_
    refine pv_sld (v := u) hx hb hX hbl hbA hS (by omega) (by omega) hu dL_law_687 ?_
    refine mu_callV (As := [.int (iI u)]) (rest := []) AP_mv ⟨hx, hb, hml, hown, hts⟩ (d_M_gapBehind l D cI cZ s.heap.size st Z y0 y1 y2 y3 y6 y7 y8 u hur hrp) (cwV 1 hts gL_law_X1_gapBehind rfl rfl rfl (by decide +kernel) ⟨(Nat.le_of_ble_eq_true rfl), (Nat.le_of_ble_eq_true rfl)⟩) ⟨hSW, hM⟩ (AP_rc ⟨hSW, hM⟩) rfl rfl hl.1 (Nat.le_of_ble_eq_true rfl) dL_law_688 ⟨by show cells + 1 + 0 ≤ 601024; omega, by show slots + 6 + 0 ≤ 7293034; omega⟩ hS (MA_b hM) (fun H locs hP2 hz hk hS => ?_)
    have hC := CW_fr hC hk (fun q h z => hxy q h z)
    have hO := OC_fr hO hk hoy
    have hM := hP2
    try dsimp only at hM
    refine va_forget (fun q hq => hS.2.2 q hq) ?_
    have hS := va_S_nil hS
    have hSW := hSW0.keep (fun q h => hS.2.1 q h (Nat.not_le.mpr h))
    refine lv_istore (lv' := [(6, .int (iI (0))), (5, .int (iI 1)), (0, .ref b), (1, .ref x0), (2, .ref y0), (3, .ref o), (4, .int (iI i))]) hx hb dL_law_691 hl (by decide) rfl (fun ls hl => ?_)
    refine lv_aload_n hx hb dL_law_693 rfl (lv_at hl 4 rfl) ?_
    refine pu_callV (v := 1) (As := []) (rest := []) AP_mv ⟨hx, hb, hml, hown, hts⟩ (c_M_thrown l D cI cZ s.heap.size st Z y0 y1 y2 y3 y6 y7 y8) (cwV 0 hts gL_law_X1_thrown rfl rfl rfl (by decide +kernel) ⟨(Nat.le_of_ble_eq_true rfl), (Nat.le_of_ble_eq_true rfl)⟩) ⟨hSW, hM⟩ (AP_rc ⟨hSW, hM⟩) rfl rfl hl.1 (Nat.le_of_ble_eq_true rfl) dL_law_694 ⟨by show cells + 1 + 0 ≤ 601024; omega, by show slots + 6 + 0 ≤ 7293034; omega⟩ ?_
    refine lv_iload hx hb dL_law_697 (lv_at hl 1 rfl) ?_
    refine pv_same (tgt := 704) hx hb dL_law_699 (by decide) ?_
    refine lv_iload hx hb dL_law_704 (lv_at hl 1 rfl) ?_
    refine pv_if_ne (tgt := 721) hx hb dL_law_706 (by decide) (by omega) (fun c9 => ?_) (fun c9 => ?_)
    rotate_left
    · exact absurd c9 (by omega)
    refine lv_goto (tgt := 1234) hx hb dL_law_721 (by decide) ?_
    exact K _ _ _ _ _ _ _ _ _ _ _ _ hI hC hM hO hS (lv_sub hl [2, 3, 4, 5, 6] rfl)
set_option maxHeartbeats 4000000 in
set_option maxRecDepth 100000 in
theorem arm_13 {p : Program} {e : Env} {s : State} {m : MethodId} {below : List Frame} {meth : Method} {c : Code} (l : Launch) (hfl : l.stackTraces = false) {b L : Nat} {xs : Nat → Int32} (hL : L ≤ 1536) (C0 : lw_At p s m meth c b L xs)
    {D : va_G} {cI cZ cJ : ClassId} {st : Nat} {Z : Nat → Nat} (hSW0 : SW D cI cZ s.heap.size st Z s s.heap) (hKJ : va_K D vwCl [(cJ, .long)] s) (hnc1 : va_Nc "java/lang/IllegalStateException" "java/lang/IndexOutOfBoundsException" s) (hnc2 : va_Nc "java/lang/IllegalArgumentException" "java/lang/IndexOutOfBoundsException" s)
    {x0 x1 x2 x5 x6 x7 y0 y1 y2 y3 y6 y7 y8 o : Nat} (hxy : ∀ q, mC x0 x1 x2 x5 x6 x7 q → ¬ mM y0 y1 y2 y3 y6 y7 y8 q) (hox : ¬ mC x0 x1 x2 x5 x6 x7 o) (hoy : ¬ mM y0 y1 y2 y3 y6 y7 y8 o) (hob : s.heap.size ≤ o)
    {n came MV th : Int} {F G SP RF RC : Int → Int} (hI : INV n came F G RF) {H : Heap} (hC : CW D cI s.heap.size x0 x1 x2 x5 x6 x7 n came MV F G SP RF RC H) (hM : MA D cI cZ s.heap.size y0 y1 y2 y3 y6 y7 y8 n came MV th F G SP RF RC H) {lf : Nat → Int64} (hO : OC D cJ o lf H) (hS : va_S (fun q : Nat => s.heap.size ≤ q) s.heap H []) {i : Int} (hi : 0 ≤ i ∧ i + 2 < L) {ls : Array Slot} (hl : lv_has ls 7 [(0, .ref b), (1, .ref x0), (2, .ref y0), (3, .ref o), (4, .int (iI i))]) {cells slots : Nat} (hc : cells + 1 ≤ 601024) (hs9 : slots + 6 ≤ 7293034)
    (K : ∀ (n came MV th : Int) (F G SP RF RC : Int → Int) (H : Heap) (lf : Nat → Int64) (ls : Array Slot), INV n came F G RF → CW D cI s.heap.size x0 x1 x2 x5 x6 x7 n came MV F G SP RF RC H → MA D cI cZ s.heap.size y0 y1 y2 y3 y6 y7 y8 n came MV th F G SP RF RC H → OC D cJ o lf H → va_S (fun q : Nat => s.heap.size ≤ q) s.heap H [] → lv_has ls 7 [(0, .ref b), (1, .ref x0), (2, .ref y0), (3, .ref o), (4, .int (iI i))] → W p l e room_1 s m #[Value.ref b] below meth c H [] (cells + 1) (slots + 6) (lw_Z below #[Value.ref b] s) (F0 m 1234 ls [])) : W p l e room_1 s m #[Value.ref b] below meth c H [] (cells) (slots) (lw_Z below #[Value.ref b] s) (F0 m 724 ls []) := by
  obtain ⟨hx, hb, hr, hml, hown, hts0, hX, hbl, hlocks, hgv⟩ := id C0
  have hts : ∀ w ∈ wsL_law, w.before #[Value.ref b] s = true := fun w h => hts0 w (wsL_law_in w h)
  have hbA : ¬ (fun q : Nat => s.heap.size ≤ q) b := Nat.not_le.mpr hbl
  have hSW := hSW0.keep (fun q h => hS.2.1 q h (Nat.not_le.mpr h))
  obtain ⟨hn, hcm, hF, hfc, hFi, hG, hs, hRI0⟩ := id hI
  have hRF := INV_RF hI
  obtain ⟨u, hur, hu⟩ := iI_of (xs (i + 1).toNat)
  obtain ⟨v, hvr, hv⟩ := iI_of (xs (i + 2).toNat)
  by_cases hlv : 0 ≤ u ∧ u ≤ 8
  · skip
    by_cases hsh : 0 ≤ v ∧ v < 256 / 2 ^ u.toNat
    · skip
      refine lv_aload_n hx hb dL_law_724 rfl (lv_at hl 1 rfl) ?_
      refine lv_aload_n hx hb dL_law_725 rfl (lv_at hl 0 rfl) ?_
      refine lv_iload hx hb dL_law_726 (lv_at hl 4 rfl) ?_
      refine pv_iconst hx hb dL_law_728 ?_
      refine pv_iadd hx hb dL_law_729 ?_
      refine pv_sld (v := u) hx hb hX hbl hbA hS (by omega) (by omega) hu dL_law_730 ?_
      refine lv_aload_n hx hb dL_law_731 rfl (lv_at hl 0 rfl) ?_
      refine lv_iload hx hb dL_law_732 (lv_at hl 4 rfl) ?_
      refine pv_iconst hx hb dL_law_734 ?_
      refine pv_iadd hx hb dL_law_735 ?_
      refine pv_sld (v := v) hx hb hX hbl hbA hS (by omega) (by omega) hv dL_law_736 ?_
      refine lv_aload_n hx hb dL_law_737 rfl (lv_at hl 3 rfl) ?_
      refine wr_call (As := [.ref x0, .int (iI u), .int (iI v), .ref o]) (rest := []) WP_mv ⟨hx, hb, hml, hown, hts⟩ (w_load l D cI cZ cJ s.heap.size st Z x0 x1 x2 x5 x6 x7 o hn hG hs u hlv v hvr hsh) (vx_cwSW 4 hts gL_law_L_load rfl rfl rfl (by decide +kernel) ⟨(Nat.le_of_ble_eq_true rfl), (Nat.le_of_ble_eq_true rfl)⟩) ⟨⟨hSW, hC⟩, hKJ, ⟨lf, hO⟩, hox, hnc1, hnc2⟩ rfl rfl hl.1 (Nat.le_of_ble_eq_true rfl) dL_law_738 ⟨by show cells + 0 ≤ 601024; omega, by show slots + 0 ≤ 7293034; omega⟩ hS (fun q h => by rcases h with h | h; exact CW_b hC q h; rw [h]; exact hob) (fun H locs hP2 hz hk hS => ?_)
      obtain ⟨hC, lf, hv9, hO⟩ := hP2
      have hM := MA_fr hM hk (fun q h z => by rcases z with z | z; exact hxy q z h; exact hoy (by rw [← z]; exact h))
      refine va_forget (fun q hq => hS.2.2 q hq) ?_
      have hS := va_S_nil hS
      have hSW := hSW0.keep (fun q h => hS.2.1 q h (Nat.not_le.mpr h))
      refine W.widen (k := cells + 1) (n := slots + 6) (by omega) (by omega) ?_
      refine lv_istore (lv' := [(5, .int (iI 0)), (0, .ref b), (1, .ref x0), (2, .ref y0), (3, .ref o), (4, .int (iI i))]) hx hb dL_law_741 hl (by decide) rfl (fun ls hl => ?_)
      refine lv_aload_n hx hb dL_law_743 rfl (lv_at hl 3 rfl) ?_
      refine lv_aload_n hx hb dL_law_744 rfl (lv_at hl 1 rfl) ?_
      refine lv_iload hx hb dL_law_745 (lv_at hl 5 rfl) ?_
      refine pv_iconst hx hb dL_law_747 ?_
      refine pv_iadd hx hb dL_law_748 ?_
      refine pv_sld (v := u) hx hb hX hbl hbA hS (by omega) (by omega) hu dL_law_749 ?_
      refine lv_aload_n hx hb dL_law_750 rfl (lv_at hl 1 rfl) ?_
      refine lv_iload hx hb dL_law_751 (lv_at hl 5 rfl) ?_
      refine pv_iconst hx hb dL_law_753 ?_
      refine pv_iadd hx hb dL_law_754 ?_
      refine pv_sld (v := v) hx hb hX hbl hbA hS (by omega) (by omega) hv dL_law_755 ?_
      refine mu_callV (As := [.int (iI u), .int (iI v)]) (rest := []) AP_mv ⟨hx, hb, hml, hown, hts⟩ (c_M_load l D cI cZ s.heap.size st Z y0 y1 y2 y3 y6 y7 y8 hn hF hG hs u hlv v hvr hsh) (cwV 2 hts gL_law_X1_load rfl rfl rfl (by decide +kernel) ⟨(Nat.le_of_ble_eq_true rfl), (Nat.le_of_ble_eq_true rfl)⟩) ⟨hSW, hM⟩ (AP_rc ⟨hSW, hM⟩) rfl rfl hl.1 (Nat.le_of_ble_eq_true rfl) dL_law_756 ⟨by show cells + 1 + 0 ≤ 601024; omega, by show slots + 6 + 0 ≤ 7293034; omega⟩ hS (MA_b hM) (fun H locs hP2 hz hk hS => ?_)
      have hC := CW_fr hC hk (fun q h z => hxy q h z)
      have hO := OC_fr hO hk hoy
      have hM := hP2
      try dsimp only at hM
      refine va_forget (fun q hq => hS.2.2 q hq) ?_
      have hS := va_S_nil hS
      have hSW := hSW0.keep (fun q h => hS.2.1 q h (Nat.not_le.mpr h))
      refine lv_istore (lv' := [(6, .int (iI (ldn G n u v))), (5, .int (iI 0)), (0, .ref b), (1, .ref x0), (2, .ref y0), (3, .ref o), (4, .int (iI i))]) hx hb dL_law_759 hl (by decide) rfl (fun ls hl => ?_)
      refine lv_aload_n hx hb dL_law_761 rfl (lv_at hl 4 rfl) ?_
      refine pu_callV (v := 0) (As := []) (rest := []) AP_mv ⟨hx, hb, hml, hown, hts⟩ (c_M_thrown l D cI cZ s.heap.size st Z y0 y1 y2 y3 y6 y7 y8) (cwV 0 hts gL_law_X1_thrown rfl rfl rfl (by decide +kernel) ⟨(Nat.le_of_ble_eq_true rfl), (Nat.le_of_ble_eq_true rfl)⟩) ⟨hSW, hM⟩ (AP_rc ⟨hSW, hM⟩) rfl rfl hl.1 (Nat.le_of_ble_eq_true rfl) dL_law_762 ⟨by show cells + 1 + 0 ≤ 601024; omega, by show slots + 6 + 0 ≤ 7293034; omega⟩ ?_
      refine lv_iload hx hb dL_law_765 (lv_at hl 1 rfl) ?_
      refine pv_same (tgt := 772) hx hb dL_law_767 (by decide) ?_
      refine lv_iload hx hb dL_law_772 (lv_at hl 1 rfl) ?_
      refine pv_if_ne (tgt := 789) hx hb dL_law_774 (by decide) (by omega) (fun c9 => ?_) (fun c9 => ?_)
      · exact absurd rfl c9
      refine lv_aload_n hx hb dL_law_777 rfl (lv_at hl 5 rfl) ?_
      refine pv_iconst hx hb dL_law_778 ?_
      refine pv_lald hx hb hKJ hO hv9 dL_law_779 ?_
      refine lv_iload hx hb dL_law_780 (lv_at hl 0 rfl) ?_
      refine lv_i2l (v := (iI (ldn G n u v)).toInt64) hx hb dL_law_782 rfl ?_
      refine W.lcmp hx hb dL_law_783 ?_
      rw [lg_cmp_s]
      refine pv_if_eq (tgt := 789) hx hb dL_law_784 (by decide) (by omega) (fun c9 => ?_) (fun c9 => absurd rfl c9)
      refine lv_goto (tgt := 1234) hx hb dL_law_789 (by decide) ?_
      exact K _ _ _ _ _ _ _ _ _ _ _ _ hI hC hM hO hS (lv_sub hl [2, 3, 4, 5, 6] rfl)
    · skip
      refine lv_aload_n hx hb dL_law_724 rfl (lv_at hl 1 rfl) ?_
      refine lv_aload_n hx hb dL_law_725 rfl (lv_at hl 0 rfl) ?_
      refine lv_iload hx hb dL_law_726 (lv_at hl 4 rfl) ?_
      refine pv_iconst hx hb dL_law_728 ?_
      refine pv_iadd hx hb dL_law_729 ?_
      refine pv_sld (v := u) hx hb hX hbl hbA hS (by omega) (by omega) hu dL_law_730 ?_
      refine lv_aload_n hx hb dL_law_731 rfl (lv_at hl 0 rfl) ?_
      refine lv_iload hx hb dL_law_732 (lv_at hl 4 rfl) ?_
      refine pv_iconst hx hb dL_law_734 ?_
      refine pv_iadd hx hb dL_law_735 ?_
      refine pv_sld (v := v) hx hb hX hbl hbA hS (by omega) (by omega) hv dL_law_736 ?_
      refine lv_aload_n hx hb dL_law_737 rfl (lv_at hl 3 rfl) ?_
      refine wr_call (As := [.ref x0, .int (iI u), .int (iI v), .ref o]) (rest := []) WP_mv ⟨hx, hb, hml, hown, hts⟩ (v_load2 l D cI cZ cJ s.heap.size st Z x0 x1 x2 x5 x6 x7 o hfl u hlv v hvr hsh) (vx_cwSW 4 hts gL_law_L_load rfl rfl rfl (by decide +kernel) ⟨(Nat.le_of_ble_eq_true rfl), (Nat.le_of_ble_eq_true rfl)⟩) ⟨⟨hSW, hC⟩, hKJ, ⟨lf, hO⟩, hox, hnc1, hnc2⟩ rfl rfl hl.1 (Nat.le_of_ble_eq_true rfl) dL_law_738 ⟨by show cells + 1 ≤ 601024; omega, by show slots + 6 ≤ 7293034; omega⟩ hS (fun q h => by rcases h with h | h; exact CW_b hC q h; rw [h]; exact hob) (fun H locs hP2 hz hk hS => ?_)
      obtain ⟨hC, lf, hO⟩ := hP2
      have hM := MA_fr hM hk (fun q h z => by rcases z with z | z; exact hxy q z h; exact hoy (by rw [← z]; exact h))
      refine va_forget (fun q hq => hS.2.2 q hq) ?_
      have hS := va_S_nil hS
      have hSW := hSW0.keep (fun q h => hS.2.1 q h (Nat.not_le.mpr h))
      refine W.widen (k := cells + 1) (n := slots + 6) (Nat.le_refl _) (Nat.le_refl _) ?_
      refine lv_istore (lv' := [(5, .int (iI 1)), (0, .ref b), (1, .ref x0), (2, .ref y0), (3, .ref o), (4, .int (iI i))]) hx hb dL_law_741 hl (by decide) rfl (fun ls hl => ?_)
      refine lv_aload_n hx hb dL_law_743 rfl (lv_at hl 3 rfl) ?_
      refine lv_aload_n hx hb dL_law_744 rfl (lv_at hl 1 rfl) ?_
      refine lv_iload hx hb dL_law_745 (lv_at hl 5 rfl) ?_
      refine pv_iconst hx hb dL_law_747 ?_
      refine pv_iadd hx hb dL_law_748 ?_
      refine pv_sld (v := u) hx hb hX hbl hbA hS (by omega) (by omega) hu dL_law_749 ?_
      refine lv_aload_n hx hb dL_law_750 rfl (lv_at hl 1 rfl) ?_
      refine lv_iload hx hb dL_law_751 (lv_at hl 5 rfl) ?_
      refine pv_iconst hx hb dL_law_753 ?_
      refine pv_iadd hx hb dL_law_754 ?_
      refine pv_sld (v := v) hx hb hX hbl hbA hS (by omega) (by omega) hv dL_law_755 ?_
      refine mu_callV (As := [.int (iI u), .int (iI v)]) (rest := []) AP_mv ⟨hx, hb, hml, hown, hts⟩ (d_M_load2 l D cI cZ s.heap.size st Z y0 y1 y2 y3 y6 y7 y8 u hlv v hvr hsh) (cwV 2 hts gL_law_X1_load rfl rfl rfl (by decide +kernel) ⟨(Nat.le_of_ble_eq_true rfl), (Nat.le_of_ble_eq_true rfl)⟩) ⟨hSW, hM⟩ (AP_rc ⟨hSW, hM⟩) rfl rfl hl.1 (Nat.le_of_ble_eq_true rfl) dL_law_756 ⟨by show cells + 1 + 0 ≤ 601024; omega, by show slots + 6 + 0 ≤ 7293034; omega⟩ hS (MA_b hM) (fun H locs hP2 hz hk hS => ?_)
      have hC := CW_fr hC hk (fun q h z => hxy q h z)
      have hO := OC_fr hO hk hoy
      have hM := hP2
      try dsimp only at hM
      refine va_forget (fun q hq => hS.2.2 q hq) ?_
      have hS := va_S_nil hS
      have hSW := hSW0.keep (fun q h => hS.2.1 q h (Nat.not_le.mpr h))
      refine lv_istore (lv' := [(6, .int (iI (0))), (5, .int (iI 1)), (0, .ref b), (1, .ref x0), (2, .ref y0), (3, .ref o), (4, .int (iI i))]) hx hb dL_law_759 hl (by decide) rfl (fun ls hl => ?_)
      refine lv_aload_n hx hb dL_law_761 rfl (lv_at hl 4 rfl) ?_
      refine pu_callV (v := 1) (As := []) (rest := []) AP_mv ⟨hx, hb, hml, hown, hts⟩ (c_M_thrown l D cI cZ s.heap.size st Z y0 y1 y2 y3 y6 y7 y8) (cwV 0 hts gL_law_X1_thrown rfl rfl rfl (by decide +kernel) ⟨(Nat.le_of_ble_eq_true rfl), (Nat.le_of_ble_eq_true rfl)⟩) ⟨hSW, hM⟩ (AP_rc ⟨hSW, hM⟩) rfl rfl hl.1 (Nat.le_of_ble_eq_true rfl) dL_law_762 ⟨by show cells + 1 + 0 ≤ 601024; omega, by show slots + 6 + 0 ≤ 7293034; omega⟩ ?_
      refine lv_iload hx hb dL_law_765 (lv_at hl 1 rfl) ?_
      refine pv_same (tgt := 772) hx hb dL_law_767 (by decide) ?_
      refine lv_iload hx hb dL_law_772 (lv_at hl 1 rfl) ?_
      refine pv_if_ne (tgt := 789) hx hb dL_law_774 (by decide) (by omega) (fun c9 => ?_) (fun c9 => ?_)
      rotate_left
      · exact absurd c9 (by omega)
      refine lv_goto (tgt := 1234) hx hb dL_law_789 (by decide) ?_
      exact K _ _ _ _ _ _ _ _ _ _ _ _ hI hC hM hO hS (lv_sub hl [2, 3, 4, 5, 6] rfl)
  · skip
    refine lv_aload_n hx hb dL_law_724 rfl (lv_at hl 1 rfl) ?_
    refine lv_aload_n hx hb dL_law_725 rfl (lv_at hl 0 rfl) ?_
    refine lv_iload hx hb dL_law_726 (lv_at hl 4 rfl) ?_
    refine pv_iconst hx hb dL_law_728 ?_
    refine pv_iadd hx hb dL_law_729 ?_
    refine pv_sld (v := u) hx hb hX hbl hbA hS (by omega) (by omega) hu dL_law_730 ?_
    refine lv_aload_n hx hb dL_law_731 rfl (lv_at hl 0 rfl) ?_
    refine lv_iload hx hb dL_law_732 (lv_at hl 4 rfl) ?_
    refine pv_iconst hx hb dL_law_734 ?_
    refine pv_iadd hx hb dL_law_735 ?_
    refine pv_sld (v := v) hx hb hX hbl hbA hS (by omega) (by omega) hv dL_law_736 ?_
    refine lv_aload_n hx hb dL_law_737 rfl (lv_at hl 3 rfl) ?_
    refine wr_call (As := [.ref x0, .int (iI u), .int (iI v), .ref o]) (rest := []) WP_mv ⟨hx, hb, hml, hown, hts⟩ (v_load l D cI cZ cJ s.heap.size st Z x0 x1 x2 x5 x6 x7 o hfl u hur hlv v) (vx_cwSW 4 hts gL_law_L_load rfl rfl rfl (by decide +kernel) ⟨(Nat.le_of_ble_eq_true rfl), (Nat.le_of_ble_eq_true rfl)⟩) ⟨⟨hSW, hC⟩, hKJ, ⟨lf, hO⟩, hox, hnc1, hnc2⟩ rfl rfl hl.1 (Nat.le_of_ble_eq_true rfl) dL_law_738 ⟨by show cells + 1 ≤ 601024; omega, by show slots + 6 ≤ 7293034; omega⟩ hS (fun q h => by rcases h with h | h; exact CW_b hC q h; rw [h]; exact hob) (fun H locs hP2 hz hk hS => ?_)
    obtain ⟨hC, lf, hO⟩ := hP2
    have hM := MA_fr hM hk (fun q h z => by rcases z with z | z; exact hxy q z h; exact hoy (by rw [← z]; exact h))
    refine va_forget (fun q hq => hS.2.2 q hq) ?_
    have hS := va_S_nil hS
    have hSW := hSW0.keep (fun q h => hS.2.1 q h (Nat.not_le.mpr h))
    refine W.widen (k := cells + 1) (n := slots + 6) (Nat.le_refl _) (Nat.le_refl _) ?_
    refine lv_istore (lv' := [(5, .int (iI 1)), (0, .ref b), (1, .ref x0), (2, .ref y0), (3, .ref o), (4, .int (iI i))]) hx hb dL_law_741 hl (by decide) rfl (fun ls hl => ?_)
    refine lv_aload_n hx hb dL_law_743 rfl (lv_at hl 3 rfl) ?_
    refine lv_aload_n hx hb dL_law_744 rfl (lv_at hl 1 rfl) ?_
    refine lv_iload hx hb dL_law_745 (lv_at hl 5 rfl) ?_
    refine pv_iconst hx hb dL_law_747 ?_
    refine pv_iadd hx hb dL_law_748 ?_
    refine pv_sld (v := u) hx hb hX hbl hbA hS (by omega) (by omega) hu dL_law_749 ?_
    refine lv_aload_n hx hb dL_law_750 rfl (lv_at hl 1 rfl) ?_
    refine lv_iload hx hb dL_law_751 (lv_at hl 5 rfl) ?_
    refine pv_iconst hx hb dL_law_753 ?_
    refine pv_iadd hx hb dL_law_754 ?_
    refine pv_sld (v := v) hx hb hX hbl hbA hS (by omega) (by omega) hv dL_law_755 ?_
    refine mu_callV (As := [.int (iI u), .int (iI v)]) (rest := []) AP_mv ⟨hx, hb, hml, hown, hts⟩ (d_M_load l D cI cZ s.heap.size st Z y0 y1 y2 y3 y6 y7 y8 u hur hlv v) (cwV 2 hts gL_law_X1_load rfl rfl rfl (by decide +kernel) ⟨(Nat.le_of_ble_eq_true rfl), (Nat.le_of_ble_eq_true rfl)⟩) ⟨hSW, hM⟩ (AP_rc ⟨hSW, hM⟩) rfl rfl hl.1 (Nat.le_of_ble_eq_true rfl) dL_law_756 ⟨by show cells + 1 + 0 ≤ 601024; omega, by show slots + 6 + 0 ≤ 7293034; omega⟩ hS (MA_b hM) (fun H locs hP2 hz hk hS => ?_)
    have hC := CW_fr hC hk (fun q h z => hxy q h z)
    have hO := OC_fr hO hk hoy
    have hM := hP2
    try dsimp only at hM
    refine va_forget (fun q hq => hS.2.2 q hq) ?_
    have hS := va_S_nil hS
    have hSW := hSW0.keep (fun q h => hS.2.1 q h (Nat.not_le.mpr h))
    refine lv_istore (lv' := [(6, .int (iI (0))), (5, .int (iI 1)), (0, .ref b), (1, .ref x0), (2, .ref y0), (3, .ref o), (4, .int (iI i))]) hx hb dL_law_759 hl (by decide) rfl (fun ls hl => ?_)
    refine lv_aload_n hx hb dL_law_761 rfl (lv_at hl 4 rfl) ?_
    refine pu_callV (v := 1) (As := []) (rest := []) AP_mv ⟨hx, hb, hml, hown, hts⟩ (c_M_thrown l D cI cZ s.heap.size st Z y0 y1 y2 y3 y6 y7 y8) (cwV 0 hts gL_law_X1_thrown rfl rfl rfl (by decide +kernel) ⟨(Nat.le_of_ble_eq_true rfl), (Nat.le_of_ble_eq_true rfl)⟩) ⟨hSW, hM⟩ (AP_rc ⟨hSW, hM⟩) rfl rfl hl.1 (Nat.le_of_ble_eq_true rfl) dL_law_762 ⟨by show cells + 1 + 0 ≤ 601024; omega, by show slots + 6 + 0 ≤ 7293034; omega⟩ ?_
    refine lv_iload hx hb dL_law_765 (lv_at hl 1 rfl) ?_
    refine pv_same (tgt := 772) hx hb dL_law_767 (by decide) ?_
    refine lv_iload hx hb dL_law_772 (lv_at hl 1 rfl) ?_
    refine pv_if_ne (tgt := 789) hx hb dL_law_774 (by decide) (by omega) (fun c9 => ?_) (fun c9 => ?_)
    rotate_left
    · exact absurd c9 (by omega)
    refine lv_goto (tgt := 1234) hx hb dL_law_789 (by decide) ?_
    exact K _ _ _ _ _ _ _ _ _ _ _ _ hI hC hM hO hS (lv_sub hl [2, 3, 4, 5, 6] rfl)
set_option maxHeartbeats 4000000 in
set_option maxRecDepth 100000 in
theorem arm_14 {p : Program} {e : Env} {s : State} {m : MethodId} {below : List Frame} {meth : Method} {c : Code} (l : Launch) (hfl : l.stackTraces = false) {b L : Nat} {xs : Nat → Int32} (hL : L ≤ 1536) (C0 : lw_At p s m meth c b L xs)
    {D : va_G} {cI cZ cJ : ClassId} {st : Nat} {Z : Nat → Nat} (hSW0 : SW D cI cZ s.heap.size st Z s s.heap) (hKJ : va_K D vwCl [(cJ, .long)] s) (hnc1 : va_Nc "java/lang/IllegalStateException" "java/lang/IndexOutOfBoundsException" s) (hnc2 : va_Nc "java/lang/IllegalArgumentException" "java/lang/IndexOutOfBoundsException" s)
    {x0 x1 x2 x5 x6 x7 y0 y1 y2 y3 y6 y7 y8 o : Nat} (hxy : ∀ q, mC x0 x1 x2 x5 x6 x7 q → ¬ mM y0 y1 y2 y3 y6 y7 y8 q) (hox : ¬ mC x0 x1 x2 x5 x6 x7 o) (hoy : ¬ mM y0 y1 y2 y3 y6 y7 y8 o) (hob : s.heap.size ≤ o)
    {n came MV th : Int} {F G SP RF RC : Int → Int} (hI : INV n came F G RF) {H : Heap} (hC : CW D cI s.heap.size x0 x1 x2 x5 x6 x7 n came MV F G SP RF RC H) (hM : MA D cI cZ s.heap.size y0 y1 y2 y3 y6 y7 y8 n came MV th F G SP RF RC H) {lf : Nat → Int64} (hO : OC D cJ o lf H) (hS : va_S (fun q : Nat => s.heap.size ≤ q) s.heap H []) {i : Int} (hi : 0 ≤ i ∧ i + 2 < L) {ls : Array Slot} (hl : lv_has ls 7 [(0, .ref b), (1, .ref x0), (2, .ref y0), (3, .ref o), (4, .int (iI i))]) {cells slots : Nat} (hc : cells + 1 ≤ 601024) (hs9 : slots + 6 ≤ 7293034)
    (K : ∀ (n came MV th : Int) (F G SP RF RC : Int → Int) (H : Heap) (lf : Nat → Int64) (ls : Array Slot), INV n came F G RF → CW D cI s.heap.size x0 x1 x2 x5 x6 x7 n came MV F G SP RF RC H → MA D cI cZ s.heap.size y0 y1 y2 y3 y6 y7 y8 n came MV th F G SP RF RC H → OC D cJ o lf H → va_S (fun q : Nat => s.heap.size ≤ q) s.heap H [] → lv_has ls 7 [(0, .ref b), (1, .ref x0), (2, .ref y0), (3, .ref o), (4, .int (iI i))] → W p l e room_1 s m #[Value.ref b] below meth c H [] (cells + 1) (slots + 6) (lw_Z below #[Value.ref b] s) (F0 m 1234 ls [])) : W p l e room_1 s m #[Value.ref b] below meth c H [] (cells) (slots) (lw_Z below #[Value.ref b] s) (F0 m 792 ls []) := by
  obtain ⟨hx, hb, hr, hml, hown, hts0, hX, hbl, hlocks, hgv⟩ := id C0
  have hts : ∀ w ∈ wsL_law, w.before #[Value.ref b] s = true := fun w h => hts0 w (wsL_law_in w h)
  have hbA : ¬ (fun q : Nat => s.heap.size ≤ q) b := Nat.not_le.mpr hbl
  have hSW := hSW0.keep (fun q h => hS.2.1 q h (Nat.not_le.mpr h))
  obtain ⟨hn, hcm, hF, hfc, hFi, hG, hs, hRI0⟩ := id hI
  have hRF := INV_RF hI
  obtain ⟨u, hur, hu⟩ := iI_of (xs (i + 1).toNat)
  by_cases hlv : 0 ≤ u ∧ u ≤ 8
  · skip
    refine lv_aload_n hx hb dL_law_792 rfl (lv_at hl 1 rfl) ?_
    refine lv_aload_n hx hb dL_law_793 rfl (lv_at hl 0 rfl) ?_
    refine lv_iload hx hb dL_law_794 (lv_at hl 4 rfl) ?_
    refine pv_iconst hx hb dL_law_796 ?_
    refine pv_iadd hx hb dL_law_797 ?_
    refine pv_sld (v := u) hx hb hX hbl hbA hS (by omega) (by omega) hu dL_law_798 ?_
    refine lv_aload_n hx hb dL_law_799 rfl (lv_at hl 3 rfl) ?_
    refine wr_call (As := [.ref x0, .int (iI u), .ref o]) (rest := []) WP_mv ⟨hx, hb, hml, hown, hts⟩ (w_loaded l D cI cZ cJ s.heap.size st Z x0 x1 x2 x5 x6 x7 o hn hG hs u hlv) (vx_cwSW 3 hts gL_law_L_loaded rfl rfl rfl (by decide +kernel) ⟨(Nat.le_of_ble_eq_true rfl), (Nat.le_of_ble_eq_true rfl)⟩) ⟨⟨hSW, hC⟩, hKJ, ⟨lf, hO⟩, hox, hnc1, hnc2⟩ rfl rfl hl.1 (Nat.le_of_ble_eq_true rfl) dL_law_800 ⟨by show cells + 0 ≤ 601024; omega, by show slots + 0 ≤ 7293034; omega⟩ hS (fun q h => by rcases h with h | h; exact CW_b hC q h; rw [h]; exact hob) (fun H locs hP2 hz hk hS => ?_)
    obtain ⟨hC, lf, hv9, hO⟩ := hP2
    have hM := MA_fr hM hk (fun q h z => by rcases z with z | z; exact hxy q z h; exact hoy (by rw [← z]; exact h))
    refine va_forget (fun q hq => hS.2.2 q hq) ?_
    have hS := va_S_nil hS
    have hSW := hSW0.keep (fun q h => hS.2.1 q h (Nat.not_le.mpr h))
    refine W.widen (k := cells + 1) (n := slots + 6) (by omega) (by omega) ?_
    rw [ldd hn hG hs hlv] at hv9
    refine lv_istore (lv' := [(5, .int (iI 0)), (0, .ref b), (1, .ref x0), (2, .ref y0), (3, .ref o), (4, .int (iI i))]) hx hb dL_law_803 hl (by decide) rfl (fun ls hl => ?_)
    refine lv_aload_n hx hb dL_law_805 rfl (lv_at hl 3 rfl) ?_
    refine lv_aload_n hx hb dL_law_806 rfl (lv_at hl 1 rfl) ?_
    refine lv_iload hx hb dL_law_807 (lv_at hl 5 rfl) ?_
    refine pv_iconst hx hb dL_law_809 ?_
    refine pv_iadd hx hb dL_law_810 ?_
    refine pv_sld (v := u) hx hb hX hbl hbA hS (by omega) (by omega) hu dL_law_811 ?_
    refine mu_callV (As := [.int (iI u)]) (rest := []) AP_mv ⟨hx, hb, hml, hown, hts⟩ (c_M_loaded l D cI cZ s.heap.size st Z y0 y1 y2 y3 y6 y7 y8 hn hF hG hs u hlv) (cwV 1 hts gL_law_X1_loaded rfl rfl rfl (by decide +kernel) ⟨(Nat.le_of_ble_eq_true rfl), (Nat.le_of_ble_eq_true rfl)⟩) ⟨hSW, hM⟩ (AP_rc ⟨hSW, hM⟩) rfl rfl hl.1 (Nat.le_of_ble_eq_true rfl) dL_law_812 ⟨by show cells + 1 + 0 ≤ 601024; omega, by show slots + 6 + 0 ≤ 7293034; omega⟩ hS (MA_b hM) (fun H locs hP2 hz hk hS => ?_)
    have hC := CW_fr hC hk (fun q h z => hxy q h z)
    have hO := OC_fr hO hk hoy
    have hM := hP2
    try dsimp only at hM
    refine va_forget (fun q hq => hS.2.2 q hq) ?_
    have hS := va_S_nil hS
    have hSW := hSW0.keep (fun q h => hS.2.1 q h (Nat.not_le.mpr h))
    refine lv_istore (lv' := [(6, .int (iI (cn (fun s => decide (LM u ≤ ldn G n u s)) (256 / 2 ^ u.toNat : Int).toNat))), (5, .int (iI 0)), (0, .ref b), (1, .ref x0), (2, .ref y0), (3, .ref o), (4, .int (iI i))]) hx hb dL_law_815 hl (by decide) rfl (fun ls hl => ?_)
    refine lv_aload_n hx hb dL_law_817 rfl (lv_at hl 4 rfl) ?_
    refine pu_callV (v := 0) (As := []) (rest := []) AP_mv ⟨hx, hb, hml, hown, hts⟩ (c_M_thrown l D cI cZ s.heap.size st Z y0 y1 y2 y3 y6 y7 y8) (cwV 0 hts gL_law_X1_thrown rfl rfl rfl (by decide +kernel) ⟨(Nat.le_of_ble_eq_true rfl), (Nat.le_of_ble_eq_true rfl)⟩) ⟨hSW, hM⟩ (AP_rc ⟨hSW, hM⟩) rfl rfl hl.1 (Nat.le_of_ble_eq_true rfl) dL_law_818 ⟨by show cells + 1 + 0 ≤ 601024; omega, by show slots + 6 + 0 ≤ 7293034; omega⟩ ?_
    refine lv_iload hx hb dL_law_821 (lv_at hl 1 rfl) ?_
    refine pv_same (tgt := 828) hx hb dL_law_823 (by decide) ?_
    refine lv_iload hx hb dL_law_828 (lv_at hl 1 rfl) ?_
    refine pv_if_ne (tgt := 845) hx hb dL_law_830 (by decide) (by omega) (fun c9 => ?_) (fun c9 => ?_)
    · exact absurd rfl c9
    refine lv_aload_n hx hb dL_law_833 rfl (lv_at hl 5 rfl) ?_
    refine pv_iconst hx hb dL_law_834 ?_
    refine pv_lald hx hb hKJ hO hv9 dL_law_835 ?_
    refine lv_iload hx hb dL_law_836 (lv_at hl 0 rfl) ?_
    refine lv_i2l (v := (iI (cn (fun s => decide (LM u ≤ ldn G n u s)) (256 / 2 ^ u.toNat : Int).toNat)).toInt64) hx hb dL_law_838 rfl ?_
    refine W.lcmp hx hb dL_law_839 ?_
    rw [lg_cmp_s]
    refine pv_if_eq (tgt := 845) hx hb dL_law_840 (by decide) (by omega) (fun c9 => ?_) (fun c9 => absurd rfl c9)
    refine lv_goto (tgt := 1234) hx hb dL_law_845 (by decide) ?_
    exact K _ _ _ _ _ _ _ _ _ _ _ _ hI hC hM hO hS (lv_sub hl [2, 3, 4, 5, 6] rfl)
  · skip
    refine lv_aload_n hx hb dL_law_792 rfl (lv_at hl 1 rfl) ?_
    refine lv_aload_n hx hb dL_law_793 rfl (lv_at hl 0 rfl) ?_
    refine lv_iload hx hb dL_law_794 (lv_at hl 4 rfl) ?_
    refine pv_iconst hx hb dL_law_796 ?_
    refine pv_iadd hx hb dL_law_797 ?_
    refine pv_sld (v := u) hx hb hX hbl hbA hS (by omega) (by omega) hu dL_law_798 ?_
    refine lv_aload_n hx hb dL_law_799 rfl (lv_at hl 3 rfl) ?_
    refine wr_call (As := [.ref x0, .int (iI u), .ref o]) (rest := []) WP_mv ⟨hx, hb, hml, hown, hts⟩ (v_loaded l D cI cZ cJ s.heap.size st Z x0 x1 x2 x5 x6 x7 o hfl u hur hlv) (vx_cwSW 3 hts gL_law_L_loaded rfl rfl rfl (by decide +kernel) ⟨(Nat.le_of_ble_eq_true rfl), (Nat.le_of_ble_eq_true rfl)⟩) ⟨⟨hSW, hC⟩, hKJ, ⟨lf, hO⟩, hox, hnc1, hnc2⟩ rfl rfl hl.1 (Nat.le_of_ble_eq_true rfl) dL_law_800 ⟨by show cells + 1 ≤ 601024; omega, by show slots + 6 ≤ 7293034; omega⟩ hS (fun q h => by rcases h with h | h; exact CW_b hC q h; rw [h]; exact hob) (fun H locs hP2 hz hk hS => ?_)
    obtain ⟨hC, lf, hO⟩ := hP2
    have hM := MA_fr hM hk (fun q h z => by rcases z with z | z; exact hxy q z h; exact hoy (by rw [← z]; exact h))
    refine va_forget (fun q hq => hS.2.2 q hq) ?_
    have hS := va_S_nil hS
    have hSW := hSW0.keep (fun q h => hS.2.1 q h (Nat.not_le.mpr h))
    refine W.widen (k := cells + 1) (n := slots + 6) (Nat.le_refl _) (Nat.le_refl _) ?_
    refine lv_istore (lv' := [(5, .int (iI 1)), (0, .ref b), (1, .ref x0), (2, .ref y0), (3, .ref o), (4, .int (iI i))]) hx hb dL_law_803 hl (by decide) rfl (fun ls hl => ?_)
    refine lv_aload_n hx hb dL_law_805 rfl (lv_at hl 3 rfl) ?_
    refine lv_aload_n hx hb dL_law_806 rfl (lv_at hl 1 rfl) ?_
    refine lv_iload hx hb dL_law_807 (lv_at hl 5 rfl) ?_
    refine pv_iconst hx hb dL_law_809 ?_
    refine pv_iadd hx hb dL_law_810 ?_
    refine pv_sld (v := u) hx hb hX hbl hbA hS (by omega) (by omega) hu dL_law_811 ?_
    refine mu_callV (As := [.int (iI u)]) (rest := []) AP_mv ⟨hx, hb, hml, hown, hts⟩ (d_M_loaded l D cI cZ s.heap.size st Z y0 y1 y2 y3 y6 y7 y8 u hur hlv) (cwV 1 hts gL_law_X1_loaded rfl rfl rfl (by decide +kernel) ⟨(Nat.le_of_ble_eq_true rfl), (Nat.le_of_ble_eq_true rfl)⟩) ⟨hSW, hM⟩ (AP_rc ⟨hSW, hM⟩) rfl rfl hl.1 (Nat.le_of_ble_eq_true rfl) dL_law_812 ⟨by show cells + 1 + 0 ≤ 601024; omega, by show slots + 6 + 0 ≤ 7293034; omega⟩ hS (MA_b hM) (fun H locs hP2 hz hk hS => ?_)
    have hC := CW_fr hC hk (fun q h z => hxy q h z)
    have hO := OC_fr hO hk hoy
    have hM := hP2
    try dsimp only at hM
    refine va_forget (fun q hq => hS.2.2 q hq) ?_
    have hS := va_S_nil hS
    have hSW := hSW0.keep (fun q h => hS.2.1 q h (Nat.not_le.mpr h))
    refine lv_istore (lv' := [(6, .int (iI (0))), (5, .int (iI 1)), (0, .ref b), (1, .ref x0), (2, .ref y0), (3, .ref o), (4, .int (iI i))]) hx hb dL_law_815 hl (by decide) rfl (fun ls hl => ?_)
    refine lv_aload_n hx hb dL_law_817 rfl (lv_at hl 4 rfl) ?_
    refine pu_callV (v := 1) (As := []) (rest := []) AP_mv ⟨hx, hb, hml, hown, hts⟩ (c_M_thrown l D cI cZ s.heap.size st Z y0 y1 y2 y3 y6 y7 y8) (cwV 0 hts gL_law_X1_thrown rfl rfl rfl (by decide +kernel) ⟨(Nat.le_of_ble_eq_true rfl), (Nat.le_of_ble_eq_true rfl)⟩) ⟨hSW, hM⟩ (AP_rc ⟨hSW, hM⟩) rfl rfl hl.1 (Nat.le_of_ble_eq_true rfl) dL_law_818 ⟨by show cells + 1 + 0 ≤ 601024; omega, by show slots + 6 + 0 ≤ 7293034; omega⟩ ?_
    refine lv_iload hx hb dL_law_821 (lv_at hl 1 rfl) ?_
    refine pv_same (tgt := 828) hx hb dL_law_823 (by decide) ?_
    refine lv_iload hx hb dL_law_828 (lv_at hl 1 rfl) ?_
    refine pv_if_ne (tgt := 845) hx hb dL_law_830 (by decide) (by omega) (fun c9 => ?_) (fun c9 => ?_)
    rotate_left
    · exact absurd c9 (by omega)
    refine lv_goto (tgt := 1234) hx hb dL_law_845 (by decide) ?_
    exact K _ _ _ _ _ _ _ _ _ _ _ _ hI hC hM hO hS (lv_sub hl [2, 3, 4, 5, 6] rfl)
set_option maxHeartbeats 4000000 in
set_option maxRecDepth 100000 in
theorem arm_15 {p : Program} {e : Env} {s : State} {m : MethodId} {below : List Frame} {meth : Method} {c : Code} (l : Launch) (hfl : l.stackTraces = false) {b L : Nat} {xs : Nat → Int32} (hL : L ≤ 1536) (C0 : lw_At p s m meth c b L xs)
    {D : va_G} {cI cZ cJ : ClassId} {st : Nat} {Z : Nat → Nat} (hSW0 : SW D cI cZ s.heap.size st Z s s.heap) (hKJ : va_K D vwCl [(cJ, .long)] s) (hnc1 : va_Nc "java/lang/IllegalStateException" "java/lang/IndexOutOfBoundsException" s) (hnc2 : va_Nc "java/lang/IllegalArgumentException" "java/lang/IndexOutOfBoundsException" s)
    {x0 x1 x2 x5 x6 x7 y0 y1 y2 y3 y6 y7 y8 o : Nat} (hxy : ∀ q, mC x0 x1 x2 x5 x6 x7 q → ¬ mM y0 y1 y2 y3 y6 y7 y8 q) (hox : ¬ mC x0 x1 x2 x5 x6 x7 o) (hoy : ¬ mM y0 y1 y2 y3 y6 y7 y8 o) (hob : s.heap.size ≤ o)
    {n came MV th : Int} {F G SP RF RC : Int → Int} (hI : INV n came F G RF) {H : Heap} (hC : CW D cI s.heap.size x0 x1 x2 x5 x6 x7 n came MV F G SP RF RC H) (hM : MA D cI cZ s.heap.size y0 y1 y2 y3 y6 y7 y8 n came MV th F G SP RF RC H) {lf : Nat → Int64} (hO : OC D cJ o lf H) (hS : va_S (fun q : Nat => s.heap.size ≤ q) s.heap H []) {i : Int} (hi : 0 ≤ i ∧ i + 2 < L) {ls : Array Slot} (hl : lv_has ls 7 [(0, .ref b), (1, .ref x0), (2, .ref y0), (3, .ref o), (4, .int (iI i))]) {cells slots : Nat} (hc : cells + 1 ≤ 601024) (hs9 : slots + 6 ≤ 7293034)
    (K : ∀ (n came MV th : Int) (F G SP RF RC : Int → Int) (H : Heap) (lf : Nat → Int64) (ls : Array Slot), INV n came F G RF → CW D cI s.heap.size x0 x1 x2 x5 x6 x7 n came MV F G SP RF RC H → MA D cI cZ s.heap.size y0 y1 y2 y3 y6 y7 y8 n came MV th F G SP RF RC H → OC D cJ o lf H → va_S (fun q : Nat => s.heap.size ≤ q) s.heap H [] → lv_has ls 7 [(0, .ref b), (1, .ref x0), (2, .ref y0), (3, .ref o), (4, .int (iI i))] → W p l e room_1 s m #[Value.ref b] below meth c H [] (cells + 1) (slots + 6) (lw_Z below #[Value.ref b] s) (F0 m 1234 ls [])) : W p l e room_1 s m #[Value.ref b] below meth c H [] (cells) (slots) (lw_Z below #[Value.ref b] s) (F0 m 848 ls []) := by
  obtain ⟨hx, hb, hr, hml, hown, hts0, hX, hbl, hlocks, hgv⟩ := id C0
  have hts : ∀ w ∈ wsL_law, w.before #[Value.ref b] s = true := fun w h => hts0 w (wsL_law_in w h)
  have hbA : ¬ (fun q : Nat => s.heap.size ≤ q) b := Nat.not_le.mpr hbl
  have hSW := hSW0.keep (fun q h => hS.2.1 q h (Nat.not_le.mpr h))
  obtain ⟨hn, hcm, hF, hfc, hFi, hG, hs, hRI0⟩ := id hI
  have hRF := INV_RF hI
  obtain ⟨u, hur, hu⟩ := iI_of (xs (i + 1).toNat)
  by_cases h0 : 0 ≤ pl F n u
  · skip
    by_cases hfree : 2 ≤ ma G n (pl F n u + 1) - G (pl F n u)
    · skip
      have hrp := pl_PL (F := F) hn.1 u
      obtain ⟨hp1, hp2, hp3⟩ := PL_p hrp h0
      have em : ma G n (pl F n u + 1 - 1) = G (pl F n u) := by rw [show pl F n u + 1 - 1 = pl F n u by omega]; exact (ma_in ⟨hp1, hp2⟩).symm
      refine lv_aload_n hx hb dL_law_848 rfl (lv_at hl 1 rfl) ?_
      refine lv_aload_n hx hb dL_law_849 rfl (lv_at hl 0 rfl) ?_
      refine lv_iload hx hb dL_law_850 (lv_at hl 4 rfl) ?_
      refine pv_iconst hx hb dL_law_852 ?_
      refine pv_iadd hx hb dL_law_853 ?_
      refine pv_sld (v := u) hx hb hX hbl hbA hS (by omega) (by omega) hu dL_law_854 ?_
      refine lv_aload_n hx hb dL_law_855 rfl (lv_at hl 3 rfl) ?_
      refine wr_call (As := [.ref x0, .int (iI u), .ref o]) (rest := []) WP_mv ⟨hx, hb, hml, hown, hts⟩ (w_would_free l D cI cZ cJ s.heap.size st Z x0 x1 x2 x5 x6 x7 o hn hF u hur (pl F n u) hrp h0 hG (by rw [em]; exact hfree)) (vx_cwSW 3 hts gL_law_L_wouldMove rfl rfl rfl (by decide +kernel) ⟨(Nat.le_of_ble_eq_true rfl), (Nat.le_of_ble_eq_true rfl)⟩) ⟨⟨hSW, hC⟩, hKJ, ⟨lf, hO⟩, hox, hnc1, hnc2⟩ rfl rfl hl.1 (Nat.le_of_ble_eq_true rfl) dL_law_856 ⟨by show cells + 0 ≤ 601024; omega, by show slots + 0 ≤ 7293034; omega⟩ hS (fun q h => by rcases h with h | h; exact CW_b hC q h; rw [h]; exact hob) (fun H locs hP2 hz hk hS => ?_)
      obtain ⟨hC, lf, hv9, hO⟩ := hP2
      have hM := MA_fr hM hk (fun q h z => by rcases z with z | z; exact hxy q z h; exact hoy (by rw [← z]; exact h))
      refine va_forget (fun q hq => hS.2.2 q hq) ?_
      have hS := va_S_nil hS
      have hSW := hSW0.keep (fun q h => hS.2.1 q h (Nat.not_le.mpr h))
      refine W.widen (k := cells + 1) (n := slots + 6) (by omega) (by omega) ?_
      refine lv_istore (lv' := [(5, .int (iI 0)), (0, .ref b), (1, .ref x0), (2, .ref y0), (3, .ref o), (4, .int (iI i))]) hx hb dL_law_859 hl (by decide) rfl (fun ls hl => ?_)
      refine lv_aload_n hx hb dL_law_861 rfl (lv_at hl 3 rfl) ?_
      refine lv_aload_n hx hb dL_law_862 rfl (lv_at hl 1 rfl) ?_
      refine lv_iload hx hb dL_law_863 (lv_at hl 5 rfl) ?_
      refine pv_iconst hx hb dL_law_865 ?_
      refine pv_iadd hx hb dL_law_866 ?_
      refine pv_sld (v := u) hx hb hX hbl hbA hS (by omega) (by omega) hu dL_law_867 ?_
      refine mu_callV (As := [.int (iI u)]) (rest := []) AP_mv ⟨hx, hb, hml, hown, hts⟩ (c_M_would_free l D cI cZ s.heap.size st Z y0 y1 y2 y3 y6 y7 y8 hn hF u hur (pl F n u) hrp h0 hG hfree) (cwV 1 hts gL_law_X1_wouldMove rfl rfl rfl (by decide +kernel) ⟨(Nat.le_of_ble_eq_true rfl), (Nat.le_of_ble_eq_true rfl)⟩) ⟨hSW, hM⟩ (AP_rc ⟨hSW, hM⟩) rfl rfl hl.1 (Nat.le_of_ble_eq_true rfl) dL_law_868 ⟨by show cells + 1 + 0 ≤ 601024; omega, by show slots + 6 + 0 ≤ 7293034; omega⟩ hS (MA_b hM) (fun H locs hP2 hz hk hS => ?_)
      have hC := CW_fr hC hk (fun q h z => hxy q h z)
      have hO := OC_fr hO hk hoy
      have hM := hP2
      try dsimp only at hM
      refine va_forget (fun q hq => hS.2.2 q hq) ?_
      have hS := va_S_nil hS
      have hSW := hSW0.keep (fun q h => hS.2.1 q h (Nat.not_le.mpr h))
      refine lv_istore (lv' := [(6, .int (iI (0))), (5, .int (iI 0)), (0, .ref b), (1, .ref x0), (2, .ref y0), (3, .ref o), (4, .int (iI i))]) hx hb dL_law_871 hl (by decide) rfl (fun ls hl => ?_)
      refine lv_aload_n hx hb dL_law_873 rfl (lv_at hl 4 rfl) ?_
      refine pu_callV (v := 0) (As := []) (rest := []) AP_mv ⟨hx, hb, hml, hown, hts⟩ (c_M_thrown l D cI cZ s.heap.size st Z y0 y1 y2 y3 y6 y7 y8) (cwV 0 hts gL_law_X1_thrown rfl rfl rfl (by decide +kernel) ⟨(Nat.le_of_ble_eq_true rfl), (Nat.le_of_ble_eq_true rfl)⟩) ⟨hSW, hM⟩ (AP_rc ⟨hSW, hM⟩) rfl rfl hl.1 (Nat.le_of_ble_eq_true rfl) dL_law_874 ⟨by show cells + 1 + 0 ≤ 601024; omega, by show slots + 6 + 0 ≤ 7293034; omega⟩ ?_
      refine lv_iload hx hb dL_law_877 (lv_at hl 1 rfl) ?_
      refine pv_same (tgt := 884) hx hb dL_law_879 (by decide) ?_
      refine lv_iload hx hb dL_law_884 (lv_at hl 1 rfl) ?_
      refine pv_if_ne (tgt := 901) hx hb dL_law_886 (by decide) (by omega) (fun c9 => ?_) (fun c9 => ?_)
      · exact absurd rfl c9
      refine lv_aload_n hx hb dL_law_889 rfl (lv_at hl 5 rfl) ?_
      refine pv_iconst hx hb dL_law_890 ?_
      refine pv_lald hx hb hKJ hO hv9 dL_law_891 ?_
      refine lv_iload hx hb dL_law_892 (lv_at hl 0 rfl) ?_
      refine lv_i2l (v := (iI (0)).toInt64) hx hb dL_law_894 rfl ?_
      refine W.lcmp hx hb dL_law_895 ?_
      rw [lg_cmp_s]
      refine pv_if_eq (tgt := 901) hx hb dL_law_896 (by decide) (by omega) (fun c9 => ?_) (fun c9 => absurd rfl c9)
      refine lv_goto (tgt := 1234) hx hb dL_law_901 (by decide) ?_
      exact K _ _ _ _ _ _ _ _ _ _ _ _ hI hC hM hO hS (lv_sub hl [2, 3, 4, 5, 6] rfl)
    · skip
      have hrp := pl_PL (F := F) hn.1 u
      obtain ⟨hp1, hp2, hp3⟩ := PL_p hrp h0
      have em : ma G n (pl F n u + 1 - 1) = G (pl F n u) := by rw [show pl F n u + 1 - 1 = pl F n u by omega]; exact (ma_in ⟨hp1, hp2⟩).symm
      obtain ⟨lv, hlv⟩ := LV_ex G n (G (pl F n u))
      have hgp := hG (pl F n u) hp1 hp2
      refine lv_aload_n hx hb dL_law_848 rfl (lv_at hl 1 rfl) ?_
      refine lv_aload_n hx hb dL_law_849 rfl (lv_at hl 0 rfl) ?_
      refine lv_iload hx hb dL_law_850 (lv_at hl 4 rfl) ?_
      refine pv_iconst hx hb dL_law_852 ?_
      refine pv_iadd hx hb dL_law_853 ?_
      refine pv_sld (v := u) hx hb hX hbl hbA hS (by omega) (by omega) hu dL_law_854 ?_
      refine lv_aload_n hx hb dL_law_855 rfl (lv_at hl 3 rfl) ?_
      refine wr_call (As := [.ref x0, .int (iI u), .ref o]) (rest := []) WP_mv ⟨hx, hb, hml, hown, hts⟩ (w_would_full l D cI cZ cJ s.heap.size st Z x0 x1 x2 x5 x6 x7 o hn hF u hur (pl F n u) hrp h0 hG hs (by rw [em]; omega) (G (pl F n u)) (by rw [em, if_neg (by omega)]) hgp lv hlv (mvn G (pl F n u + 1) ((G (pl F n u) / 2 ^ lv.toNat) * 2 ^ lv.toNat) (2 ^ lv.toNat) (mb G n ((G (pl F n u) / 2 ^ lv.toNat) * 2 ^ lv.toNat)) (ldn G n lv (G (pl F n u) / 2 ^ lv.toNat) + 1) (ldn G n lv (G (pl F n u) / 2 ^ lv.toNat)).toNat) rfl) (vx_cwSW 3 hts gL_law_L_wouldMove rfl rfl rfl (by decide +kernel) ⟨(Nat.le_of_ble_eq_true rfl), (Nat.le_of_ble_eq_true rfl)⟩) ⟨⟨hSW, hC⟩, hKJ, ⟨lf, hO⟩, hox, hnc1, hnc2⟩ rfl rfl hl.1 (Nat.le_of_ble_eq_true rfl) dL_law_856 ⟨by show cells + 0 ≤ 601024; omega, by show slots + 0 ≤ 7293034; omega⟩ hS (fun q h => by rcases h with h | h; exact CW_b hC q h; rw [h]; exact hob) (fun H locs hP2 hz hk hS => ?_)
      obtain ⟨hC, lf, hv9, hO⟩ := hP2
      have hM := MA_fr hM hk (fun q h z => by rcases z with z | z; exact hxy q z h; exact hoy (by rw [← z]; exact h))
      refine va_forget (fun q hq => hS.2.2 q hq) ?_
      have hS := va_S_nil hS
      have hSW := hSW0.keep (fun q h => hS.2.1 q h (Nat.not_le.mpr h))
      refine W.widen (k := cells + 1) (n := slots + 6) (by omega) (by omega) ?_
      refine lv_istore (lv' := [(5, .int (iI 0)), (0, .ref b), (1, .ref x0), (2, .ref y0), (3, .ref o), (4, .int (iI i))]) hx hb dL_law_859 hl (by decide) rfl (fun ls hl => ?_)
      refine lv_aload_n hx hb dL_law_861 rfl (lv_at hl 3 rfl) ?_
      refine lv_aload_n hx hb dL_law_862 rfl (lv_at hl 1 rfl) ?_
      refine lv_iload hx hb dL_law_863 (lv_at hl 5 rfl) ?_
      refine pv_iconst hx hb dL_law_865 ?_
      refine pv_iadd hx hb dL_law_866 ?_
      refine pv_sld (v := u) hx hb hX hbl hbA hS (by omega) (by omega) hu dL_law_867 ?_
      refine mu_callV (As := [.int (iI u)]) (rest := []) AP_mv ⟨hx, hb, hml, hown, hts⟩ (c_M_would_full l D cI cZ s.heap.size st Z y0 y1 y2 y3 y6 y7 y8 hn hF u hur (pl F n u) hrp h0 hG hs (by omega) lv hlv (mvn G (pl F n u + 1) ((G (pl F n u) / 2 ^ lv.toNat) * 2 ^ lv.toNat) (2 ^ lv.toNat) (mb G n ((G (pl F n u) / 2 ^ lv.toNat) * 2 ^ lv.toNat)) (ldn G n lv (G (pl F n u) / 2 ^ lv.toNat) + 1) (ldn G n lv (G (pl F n u) / 2 ^ lv.toNat)).toNat) rfl) (cwV 1 hts gL_law_X1_wouldMove rfl rfl rfl (by decide +kernel) ⟨(Nat.le_of_ble_eq_true rfl), (Nat.le_of_ble_eq_true rfl)⟩) ⟨hSW, hM⟩ (AP_rc ⟨hSW, hM⟩) rfl rfl hl.1 (Nat.le_of_ble_eq_true rfl) dL_law_868 ⟨by show cells + 1 + 0 ≤ 601024; omega, by show slots + 6 + 0 ≤ 7293034; omega⟩ hS (MA_b hM) (fun H locs hP2 hz hk hS => ?_)
      have hC := CW_fr hC hk (fun q h z => hxy q h z)
      have hO := OC_fr hO hk hoy
      have hM := hP2
      try dsimp only at hM
      refine va_forget (fun q hq => hS.2.2 q hq) ?_
      have hS := va_S_nil hS
      have hSW := hSW0.keep (fun q h => hS.2.1 q h (Nat.not_le.mpr h))
      refine lv_istore (lv' := [(6, .int (iI (mvn G (pl F n u + 1) ((G (pl F n u) / 2 ^ lv.toNat) * 2 ^ lv.toNat) (2 ^ lv.toNat) (mb G n ((G (pl F n u) / 2 ^ lv.toNat) * 2 ^ lv.toNat)) (ldn G n lv (G (pl F n u) / 2 ^ lv.toNat) + 1) (ldn G n lv (G (pl F n u) / 2 ^ lv.toNat)).toNat))), (5, .int (iI 0)), (0, .ref b), (1, .ref x0), (2, .ref y0), (3, .ref o), (4, .int (iI i))]) hx hb dL_law_871 hl (by decide) rfl (fun ls hl => ?_)
      refine lv_aload_n hx hb dL_law_873 rfl (lv_at hl 4 rfl) ?_
      refine pu_callV (v := 0) (As := []) (rest := []) AP_mv ⟨hx, hb, hml, hown, hts⟩ (c_M_thrown l D cI cZ s.heap.size st Z y0 y1 y2 y3 y6 y7 y8) (cwV 0 hts gL_law_X1_thrown rfl rfl rfl (by decide +kernel) ⟨(Nat.le_of_ble_eq_true rfl), (Nat.le_of_ble_eq_true rfl)⟩) ⟨hSW, hM⟩ (AP_rc ⟨hSW, hM⟩) rfl rfl hl.1 (Nat.le_of_ble_eq_true rfl) dL_law_874 ⟨by show cells + 1 + 0 ≤ 601024; omega, by show slots + 6 + 0 ≤ 7293034; omega⟩ ?_
      refine lv_iload hx hb dL_law_877 (lv_at hl 1 rfl) ?_
      refine pv_same (tgt := 884) hx hb dL_law_879 (by decide) ?_
      refine lv_iload hx hb dL_law_884 (lv_at hl 1 rfl) ?_
      refine pv_if_ne (tgt := 901) hx hb dL_law_886 (by decide) (by omega) (fun c9 => ?_) (fun c9 => ?_)
      · exact absurd rfl c9
      refine lv_aload_n hx hb dL_law_889 rfl (lv_at hl 5 rfl) ?_
      refine pv_iconst hx hb dL_law_890 ?_
      refine pv_lald hx hb hKJ hO hv9 dL_law_891 ?_
      refine lv_iload hx hb dL_law_892 (lv_at hl 0 rfl) ?_
      refine lv_i2l (v := (iI (mvn G (pl F n u + 1) ((G (pl F n u) / 2 ^ lv.toNat) * 2 ^ lv.toNat) (2 ^ lv.toNat) (mb G n ((G (pl F n u) / 2 ^ lv.toNat) * 2 ^ lv.toNat)) (ldn G n lv (G (pl F n u) / 2 ^ lv.toNat) + 1) (ldn G n lv (G (pl F n u) / 2 ^ lv.toNat)).toNat)).toInt64) hx hb dL_law_894 rfl ?_
      refine W.lcmp hx hb dL_law_895 ?_
      rw [lg_cmp_s]
      refine pv_if_eq (tgt := 901) hx hb dL_law_896 (by decide) (by omega) (fun c9 => ?_) (fun c9 => absurd rfl c9)
      refine lv_goto (tgt := 1234) hx hb dL_law_901 (by decide) ?_
      exact K _ _ _ _ _ _ _ _ _ _ _ _ hI hC hM hO hS (lv_sub hl [2, 3, 4, 5, 6] rfl)
  · skip
    have hrp : PL F n u (-1) := by have h1 := pl_PL (F := F) hn.1 u; have h2 := PL_rg hn.1 h1; rw [show pl F n u = -1 by omega] at h1; exact h1
    refine lv_aload_n hx hb dL_law_848 rfl (lv_at hl 1 rfl) ?_
    refine lv_aload_n hx hb dL_law_849 rfl (lv_at hl 0 rfl) ?_
    refine lv_iload hx hb dL_law_850 (lv_at hl 4 rfl) ?_
    refine pv_iconst hx hb dL_law_852 ?_
    refine pv_iadd hx hb dL_law_853 ?_
    refine pv_sld (v := u) hx hb hX hbl hbA hS (by omega) (by omega) hu dL_law_854 ?_
    refine lv_aload_n hx hb dL_law_855 rfl (lv_at hl 3 rfl) ?_
    refine wr_call (As := [.ref x0, .int (iI u), .ref o]) (rest := []) WP_mv ⟨hx, hb, hml, hown, hts⟩ (v_wouldMove l D cI cZ cJ s.heap.size st Z x0 x1 x2 x5 x6 x7 o hfl hn hF u hur hrp) (vx_cwSW 3 hts gL_law_L_wouldMove rfl rfl rfl (by decide +kernel) ⟨(Nat.le_of_ble_eq_true rfl), (Nat.le_of_ble_eq_true rfl)⟩) ⟨⟨hSW, hC⟩, hKJ, ⟨lf, hO⟩, hox, hnc1, hnc2⟩ rfl rfl hl.1 (Nat.le_of_ble_eq_true rfl) dL_law_856 ⟨by show cells + 1 ≤ 601024; omega, by show slots + 6 ≤ 7293034; omega⟩ hS (fun q h => by rcases h with h | h; exact CW_b hC q h; rw [h]; exact hob) (fun H locs hP2 hz hk hS => ?_)
    obtain ⟨hC, lf, hO⟩ := hP2
    have hM := MA_fr hM hk (fun q h z => by rcases z with z | z; exact hxy q z h; exact hoy (by rw [← z]; exact h))
    refine va_forget (fun q hq => hS.2.2 q hq) ?_
    have hS := va_S_nil hS
    have hSW := hSW0.keep (fun q h => hS.2.1 q h (Nat.not_le.mpr h))
    refine W.widen (k := cells + 1) (n := slots + 6) (Nat.le_refl _) (Nat.le_refl _) ?_
    refine lv_istore (lv' := [(5, .int (iI 1)), (0, .ref b), (1, .ref x0), (2, .ref y0), (3, .ref o), (4, .int (iI i))]) hx hb dL_law_859 hl (by decide) rfl (fun ls hl => ?_)
    refine lv_aload_n hx hb dL_law_861 rfl (lv_at hl 3 rfl) ?_
    refine lv_aload_n hx hb dL_law_862 rfl (lv_at hl 1 rfl) ?_
    refine lv_iload hx hb dL_law_863 (lv_at hl 5 rfl) ?_
    refine pv_iconst hx hb dL_law_865 ?_
    refine pv_iadd hx hb dL_law_866 ?_
    refine pv_sld (v := u) hx hb hX hbl hbA hS (by omega) (by omega) hu dL_law_867 ?_
    refine mu_callV (As := [.int (iI u)]) (rest := []) AP_mv ⟨hx, hb, hml, hown, hts⟩ (d_M_wouldMove l D cI cZ s.heap.size st Z y0 y1 y2 y3 y6 y7 y8 u hur hrp) (cwV 1 hts gL_law_X1_wouldMove rfl rfl rfl (by decide +kernel) ⟨(Nat.le_of_ble_eq_true rfl), (Nat.le_of_ble_eq_true rfl)⟩) ⟨hSW, hM⟩ (AP_rc ⟨hSW, hM⟩) rfl rfl hl.1 (Nat.le_of_ble_eq_true rfl) dL_law_868 ⟨by show cells + 1 + 0 ≤ 601024; omega, by show slots + 6 + 0 ≤ 7293034; omega⟩ hS (MA_b hM) (fun H locs hP2 hz hk hS => ?_)
    have hC := CW_fr hC hk (fun q h z => hxy q h z)
    have hO := OC_fr hO hk hoy
    have hM := hP2
    try dsimp only at hM
    refine va_forget (fun q hq => hS.2.2 q hq) ?_
    have hS := va_S_nil hS
    have hSW := hSW0.keep (fun q h => hS.2.1 q h (Nat.not_le.mpr h))
    refine lv_istore (lv' := [(6, .int (iI (0))), (5, .int (iI 1)), (0, .ref b), (1, .ref x0), (2, .ref y0), (3, .ref o), (4, .int (iI i))]) hx hb dL_law_871 hl (by decide) rfl (fun ls hl => ?_)
    refine lv_aload_n hx hb dL_law_873 rfl (lv_at hl 4 rfl) ?_
    refine pu_callV (v := 1) (As := []) (rest := []) AP_mv ⟨hx, hb, hml, hown, hts⟩ (c_M_thrown l D cI cZ s.heap.size st Z y0 y1 y2 y3 y6 y7 y8) (cwV 0 hts gL_law_X1_thrown rfl rfl rfl (by decide +kernel) ⟨(Nat.le_of_ble_eq_true rfl), (Nat.le_of_ble_eq_true rfl)⟩) ⟨hSW, hM⟩ (AP_rc ⟨hSW, hM⟩) rfl rfl hl.1 (Nat.le_of_ble_eq_true rfl) dL_law_874 ⟨by show cells + 1 + 0 ≤ 601024; omega, by show slots + 6 + 0 ≤ 7293034; omega⟩ ?_
    refine lv_iload hx hb dL_law_877 (lv_at hl 1 rfl) ?_
    refine pv_same (tgt := 884) hx hb dL_law_879 (by decide) ?_
    refine lv_iload hx hb dL_law_884 (lv_at hl 1 rfl) ?_
    refine pv_if_ne (tgt := 901) hx hb dL_law_886 (by decide) (by omega) (fun c9 => ?_) (fun c9 => ?_)
    rotate_left
    · exact absurd c9 (by omega)
    refine lv_goto (tgt := 1234) hx hb dL_law_901 (by decide) ?_
    exact K _ _ _ _ _ _ _ _ _ _ _ _ hI hC hM hO hS (lv_sub hl [2, 3, 4, 5, 6] rfl)
set_option maxHeartbeats 4000000 in
set_option maxRecDepth 100000 in
theorem arm_16 {p : Program} {e : Env} {s : State} {m : MethodId} {below : List Frame} {meth : Method} {c : Code} (l : Launch) (hfl : l.stackTraces = false) {b L : Nat} {xs : Nat → Int32} (hL : L ≤ 1536) (C0 : lw_At p s m meth c b L xs)
    {D : va_G} {cI cZ cJ : ClassId} {st : Nat} {Z : Nat → Nat} (hSW0 : SW D cI cZ s.heap.size st Z s s.heap) (hKJ : va_K D vwCl [(cJ, .long)] s) (hnc1 : va_Nc "java/lang/IllegalStateException" "java/lang/IndexOutOfBoundsException" s) (hnc2 : va_Nc "java/lang/IllegalArgumentException" "java/lang/IndexOutOfBoundsException" s)
    {x0 x1 x2 x5 x6 x7 y0 y1 y2 y3 y6 y7 y8 o : Nat} (hxy : ∀ q, mC x0 x1 x2 x5 x6 x7 q → ¬ mM y0 y1 y2 y3 y6 y7 y8 q) (hox : ¬ mC x0 x1 x2 x5 x6 x7 o) (hoy : ¬ mM y0 y1 y2 y3 y6 y7 y8 o) (hob : s.heap.size ≤ o)
    {n came MV th : Int} {F G SP RF RC : Int → Int} (hI : INV n came F G RF) {H : Heap} (hC : CW D cI s.heap.size x0 x1 x2 x5 x6 x7 n came MV F G SP RF RC H) (hM : MA D cI cZ s.heap.size y0 y1 y2 y3 y6 y7 y8 n came MV th F G SP RF RC H) {lf : Nat → Int64} (hO : OC D cJ o lf H) (hS : va_S (fun q : Nat => s.heap.size ≤ q) s.heap H []) {i : Int} (hi : 0 ≤ i ∧ i + 2 < L) {ls : Array Slot} (hl : lv_has ls 7 [(0, .ref b), (1, .ref x0), (2, .ref y0), (3, .ref o), (4, .int (iI i))]) {cells slots : Nat} (hc : cells + 1 ≤ 601024) (hs9 : slots + 6 ≤ 7293034)
    (K : ∀ (n came MV th : Int) (F G SP RF RC : Int → Int) (H : Heap) (lf : Nat → Int64) (ls : Array Slot), INV n came F G RF → CW D cI s.heap.size x0 x1 x2 x5 x6 x7 n came MV F G SP RF RC H → MA D cI cZ s.heap.size y0 y1 y2 y3 y6 y7 y8 n came MV th F G SP RF RC H → OC D cJ o lf H → va_S (fun q : Nat => s.heap.size ≤ q) s.heap H [] → lv_has ls 7 [(0, .ref b), (1, .ref x0), (2, .ref y0), (3, .ref o), (4, .int (iI i))] → W p l e room_1 s m #[Value.ref b] below meth c H [] (cells + 1) (slots + 6) (lw_Z below #[Value.ref b] s) (F0 m 1234 ls [])) : W p l e room_1 s m #[Value.ref b] below meth c H [] (cells) (slots) (lw_Z below #[Value.ref b] s) (F0 m 904 ls []) := by
  obtain ⟨hx, hb, hr, hml, hown, hts0, hX, hbl, hlocks, hgv⟩ := id C0
  have hts : ∀ w ∈ wsL_law, w.before #[Value.ref b] s = true := fun w h => hts0 w (wsL_law_in w h)
  have hbA : ¬ (fun q : Nat => s.heap.size ≤ q) b := Nat.not_le.mpr hbl
  have hSW := hSW0.keep (fun q h => hS.2.1 q h (Nat.not_le.mpr h))
  obtain ⟨hn, hcm, hF, hfc, hFi, hG, hs, hRI0⟩ := id hI
  have hRF := INV_RF hI
  refine lv_aload_n hx hb dL_law_904 rfl (lv_at hl 1 rfl) ?_
  refine pu_callV (v := MV) (As := []) (rest := []) CP_mv ⟨hx, hb, hml, hown, hts⟩ (c_moved l D cI cZ s.heap.size st Z x0 x1 x2 x5 x6 x7 ) (cwV 0 hts gL_law_X0_moved rfl rfl rfl (by decide +kernel) ⟨(Nat.le_of_ble_eq_true rfl), (Nat.le_of_ble_eq_true rfl)⟩) ⟨hSW, hC⟩ (CP_rc ⟨hSW, hC⟩) rfl rfl hl.1 (Nat.le_of_ble_eq_true rfl) dL_law_905 ⟨by show cells + 0 ≤ 601024; omega, by show slots + 0 ≤ 7293034; omega⟩ ?_
  refine lv_aload_n hx hb dL_law_908 rfl (lv_at hl 2 rfl) ?_
  refine mu_callV (As := []) (rest := [.int (iI (MV))]) AP_mv ⟨hx, hb, hml, hown, hts⟩ (c_M_moved l D cI cZ s.heap.size st Z y0 y1 y2 y3 y6 y7 y8 ) (cwV 0 hts gL_law_X1_moved rfl rfl rfl (by decide +kernel) ⟨(Nat.le_of_ble_eq_true rfl), (Nat.le_of_ble_eq_true rfl)⟩) ⟨hSW, hM⟩ (AP_rc ⟨hSW, hM⟩) rfl rfl hl.1 (Nat.le_of_ble_eq_true rfl) dL_law_909 ⟨by show cells + 0 ≤ 601024; omega, by show slots + 0 ≤ 7293034; omega⟩ hS (MA_b hM) (fun H locs hP2 hz hk hS => ?_)
  have hC := CW_fr hC hk (fun q h z => hxy q h z)
  have hO := OC_fr hO hk hoy
  have hM := hP2
  try dsimp only at hM
  refine va_forget (fun q hq => hS.2.2 q hq) ?_
  have hS := va_S_nil hS
  have hSW := hSW0.keep (fun q h => hS.2.1 q h (Nat.not_le.mpr h))
  refine pv_same (tgt := 1234) hx hb dL_law_912 (by decide) ?_
  refine W.widen (k := cells + 1) (n := slots + 6) (by omega) (by omega) ?_
  exact K _ _ _ _ _ _ _ _ _ _ _ _ hI hC hM hO hS (lv_sub hl [0, 1, 2, 3, 4] rfl)
set_option maxHeartbeats 4000000 in
set_option maxRecDepth 100000 in
theorem arm_17 {p : Program} {e : Env} {s : State} {m : MethodId} {below : List Frame} {meth : Method} {c : Code} (l : Launch) (hfl : l.stackTraces = false) {b L : Nat} {xs : Nat → Int32} (hL : L ≤ 1536) (C0 : lw_At p s m meth c b L xs)
    {D : va_G} {cI cZ cJ : ClassId} {st : Nat} {Z : Nat → Nat} (hSW0 : SW D cI cZ s.heap.size st Z s s.heap) (hKJ : va_K D vwCl [(cJ, .long)] s) (hnc1 : va_Nc "java/lang/IllegalStateException" "java/lang/IndexOutOfBoundsException" s) (hnc2 : va_Nc "java/lang/IllegalArgumentException" "java/lang/IndexOutOfBoundsException" s)
    {x0 x1 x2 x5 x6 x7 y0 y1 y2 y3 y6 y7 y8 o : Nat} (hxy : ∀ q, mC x0 x1 x2 x5 x6 x7 q → ¬ mM y0 y1 y2 y3 y6 y7 y8 q) (hox : ¬ mC x0 x1 x2 x5 x6 x7 o) (hoy : ¬ mM y0 y1 y2 y3 y6 y7 y8 o) (hob : s.heap.size ≤ o)
    {n came MV th : Int} {F G SP RF RC : Int → Int} (hI : INV n came F G RF) {H : Heap} (hC : CW D cI s.heap.size x0 x1 x2 x5 x6 x7 n came MV F G SP RF RC H) (hM : MA D cI cZ s.heap.size y0 y1 y2 y3 y6 y7 y8 n came MV th F G SP RF RC H) {lf : Nat → Int64} (hO : OC D cJ o lf H) (hS : va_S (fun q : Nat => s.heap.size ≤ q) s.heap H []) {i : Int} (hi : 0 ≤ i ∧ i + 2 < L) {ls : Array Slot} (hl : lv_has ls 7 [(0, .ref b), (1, .ref x0), (2, .ref y0), (3, .ref o), (4, .int (iI i))]) {cells slots : Nat} (hc : cells + 1 ≤ 601024) (hs9 : slots + 6 ≤ 7293034)
    (K : ∀ (n came MV th : Int) (F G SP RF RC : Int → Int) (H : Heap) (lf : Nat → Int64) (ls : Array Slot), INV n came F G RF → CW D cI s.heap.size x0 x1 x2 x5 x6 x7 n came MV F G SP RF RC H → MA D cI cZ s.heap.size y0 y1 y2 y3 y6 y7 y8 n came MV th F G SP RF RC H → OC D cJ o lf H → va_S (fun q : Nat => s.heap.size ≤ q) s.heap H [] → lv_has ls 7 [(0, .ref b), (1, .ref x0), (2, .ref y0), (3, .ref o), (4, .int (iI i))] → W p l e room_1 s m #[Value.ref b] below meth c H [] (cells + 1) (slots + 6) (lw_Z below #[Value.ref b] s) (F0 m 1234 ls [])) : W p l e room_1 s m #[Value.ref b] below meth c H [] (cells) (slots) (lw_Z below #[Value.ref b] s) (F0 m 917 ls []) := by
  obtain ⟨hx, hb, hr, hml, hown, hts0, hX, hbl, hlocks, hgv⟩ := id C0
  have hts : ∀ w ∈ wsL_law, w.before #[Value.ref b] s = true := fun w h => hts0 w (wsL_law_in w h)
  have hbA : ¬ (fun q : Nat => s.heap.size ≤ q) b := Nat.not_le.mpr hbl
  have hSW := hSW0.keep (fun q h => hS.2.1 q h (Nat.not_le.mpr h))
  obtain ⟨hn, hcm, hF, hfc, hFi, hG, hs, hRI0⟩ := id hI
  have hRF := INV_RF hI
  obtain ⟨u, hur, hu⟩ := iI_of (xs (i + 1).toNat)
  by_cases hlv : 0 ≤ u ∧ u ≤ 8
  · skip
    refine lv_aload_n hx hb dL_law_917 rfl (lv_at hl 1 rfl) ?_
    refine lv_aload_n hx hb dL_law_918 rfl (lv_at hl 0 rfl) ?_
    refine lv_iload hx hb dL_law_919 (lv_at hl 4 rfl) ?_
    refine pv_iconst hx hb dL_law_921 ?_
    refine pv_iadd hx hb dL_law_922 ?_
    refine pv_sld (v := u) hx hb hX hbl hbA hS (by omega) (by omega) hu dL_law_923 ?_
    refine lv_aload_n hx hb dL_law_924 rfl (lv_at hl 3 rfl) ?_
    refine wr_call (As := [.ref x0, .int (iI u), .ref o]) (rest := []) WP_mv ⟨hx, hb, hml, hown, hts⟩ (w_spread l D cI cZ cJ s.heap.size st Z x0 x1 x2 x5 x6 x7 o u hlv) (vx_cwSW 3 hts gL_law_L_spread rfl rfl rfl (by decide +kernel) ⟨(Nat.le_of_ble_eq_true rfl), (Nat.le_of_ble_eq_true rfl)⟩) ⟨⟨hSW, hC⟩, hKJ, ⟨lf, hO⟩, hox, hnc1, hnc2⟩ rfl rfl hl.1 (Nat.le_of_ble_eq_true rfl) dL_law_925 ⟨by show cells + 0 ≤ 601024; omega, by show slots + 0 ≤ 7293034; omega⟩ hS (fun q h => by rcases h with h | h; exact CW_b hC q h; rw [h]; exact hob) (fun H locs hP2 hz hk hS => ?_)
    obtain ⟨hC, lf, hv9, hO⟩ := hP2
    have hM := MA_fr hM hk (fun q h z => by rcases z with z | z; exact hxy q z h; exact hoy (by rw [← z]; exact h))
    refine va_forget (fun q hq => hS.2.2 q hq) ?_
    have hS := va_S_nil hS
    have hSW := hSW0.keep (fun q h => hS.2.1 q h (Nat.not_le.mpr h))
    refine W.widen (k := cells + 1) (n := slots + 6) (by omega) (by omega) ?_
    refine lv_istore (lv' := [(5, .int (iI 0)), (0, .ref b), (1, .ref x0), (2, .ref y0), (3, .ref o), (4, .int (iI i))]) hx hb dL_law_928 hl (by decide) rfl (fun ls hl => ?_)
    refine lv_aload_n hx hb dL_law_930 rfl (lv_at hl 3 rfl) ?_
    refine lv_aload_n hx hb dL_law_931 rfl (lv_at hl 1 rfl) ?_
    refine lv_iload hx hb dL_law_932 (lv_at hl 5 rfl) ?_
    refine pv_iconst hx hb dL_law_934 ?_
    refine pv_iadd hx hb dL_law_935 ?_
    refine pv_sld (v := u) hx hb hX hbl hbA hS (by omega) (by omega) hu dL_law_936 ?_
    refine mu_callV (As := [.int (iI u)]) (rest := []) AP_mv ⟨hx, hb, hml, hown, hts⟩ (c_M_spread l D cI cZ s.heap.size st Z y0 y1 y2 y3 y6 y7 y8 u hlv) (cwV 1 hts gL_law_X1_spread rfl rfl rfl (by decide +kernel) ⟨(Nat.le_of_ble_eq_true rfl), (Nat.le_of_ble_eq_true rfl)⟩) ⟨hSW, hM⟩ (AP_rc ⟨hSW, hM⟩) rfl rfl hl.1 (Nat.le_of_ble_eq_true rfl) dL_law_937 ⟨by show cells + 1 + 0 ≤ 601024; omega, by show slots + 6 + 0 ≤ 7293034; omega⟩ hS (MA_b hM) (fun H locs hP2 hz hk hS => ?_)
    have hC := CW_fr hC hk (fun q h z => hxy q h z)
    have hO := OC_fr hO hk hoy
    have hM := hP2
    try dsimp only at hM
    refine va_forget (fun q hq => hS.2.2 q hq) ?_
    have hS := va_S_nil hS
    have hSW := hSW0.keep (fun q h => hS.2.1 q h (Nat.not_le.mpr h))
    refine lv_istore (lv' := [(6, .int (iI (SP u))), (5, .int (iI 0)), (0, .ref b), (1, .ref x0), (2, .ref y0), (3, .ref o), (4, .int (iI i))]) hx hb dL_law_940 hl (by decide) rfl (fun ls hl => ?_)
    refine lv_aload_n hx hb dL_law_942 rfl (lv_at hl 4 rfl) ?_
    refine pu_callV (v := 0) (As := []) (rest := []) AP_mv ⟨hx, hb, hml, hown, hts⟩ (c_M_thrown l D cI cZ s.heap.size st Z y0 y1 y2 y3 y6 y7 y8) (cwV 0 hts gL_law_X1_thrown rfl rfl rfl (by decide +kernel) ⟨(Nat.le_of_ble_eq_true rfl), (Nat.le_of_ble_eq_true rfl)⟩) ⟨hSW, hM⟩ (AP_rc ⟨hSW, hM⟩) rfl rfl hl.1 (Nat.le_of_ble_eq_true rfl) dL_law_943 ⟨by show cells + 1 + 0 ≤ 601024; omega, by show slots + 6 + 0 ≤ 7293034; omega⟩ ?_
    refine lv_iload hx hb dL_law_946 (lv_at hl 1 rfl) ?_
    refine pv_same (tgt := 953) hx hb dL_law_948 (by decide) ?_
    refine lv_iload hx hb dL_law_953 (lv_at hl 1 rfl) ?_
    refine pv_if_ne (tgt := 970) hx hb dL_law_955 (by decide) (by omega) (fun c9 => ?_) (fun c9 => ?_)
    · exact absurd rfl c9
    refine lv_aload_n hx hb dL_law_958 rfl (lv_at hl 5 rfl) ?_
    refine pv_iconst hx hb dL_law_959 ?_
    refine pv_lald hx hb hKJ hO hv9 dL_law_960 ?_
    refine lv_iload hx hb dL_law_961 (lv_at hl 0 rfl) ?_
    refine lv_i2l (v := (iI (SP u)).toInt64) hx hb dL_law_963 rfl ?_
    refine W.lcmp hx hb dL_law_964 ?_
    rw [lg_cmp_s]
    refine pv_if_eq (tgt := 970) hx hb dL_law_965 (by decide) (by omega) (fun c9 => ?_) (fun c9 => absurd rfl c9)
    refine lv_goto (tgt := 1234) hx hb dL_law_970 (by decide) ?_
    exact K _ _ _ _ _ _ _ _ _ _ _ _ hI hC hM hO hS (lv_sub hl [2, 3, 4, 5, 6] rfl)
  · skip
    refine lv_aload_n hx hb dL_law_917 rfl (lv_at hl 1 rfl) ?_
    refine lv_aload_n hx hb dL_law_918 rfl (lv_at hl 0 rfl) ?_
    refine lv_iload hx hb dL_law_919 (lv_at hl 4 rfl) ?_
    refine pv_iconst hx hb dL_law_921 ?_
    refine pv_iadd hx hb dL_law_922 ?_
    refine pv_sld (v := u) hx hb hX hbl hbA hS (by omega) (by omega) hu dL_law_923 ?_
    refine lv_aload_n hx hb dL_law_924 rfl (lv_at hl 3 rfl) ?_
    refine wr_call (As := [.ref x0, .int (iI u), .ref o]) (rest := []) WP_mv ⟨hx, hb, hml, hown, hts⟩ (v_spread l D cI cZ cJ s.heap.size st Z x0 x1 x2 x5 x6 x7 o hfl u hur hlv) (vx_cwSW 3 hts gL_law_L_spread rfl rfl rfl (by decide +kernel) ⟨(Nat.le_of_ble_eq_true rfl), (Nat.le_of_ble_eq_true rfl)⟩) ⟨⟨hSW, hC⟩, hKJ, ⟨lf, hO⟩, hox, hnc1, hnc2⟩ rfl rfl hl.1 (Nat.le_of_ble_eq_true rfl) dL_law_925 ⟨by show cells + 1 ≤ 601024; omega, by show slots + 6 ≤ 7293034; omega⟩ hS (fun q h => by rcases h with h | h; exact CW_b hC q h; rw [h]; exact hob) (fun H locs hP2 hz hk hS => ?_)
    obtain ⟨hC, lf, hO⟩ := hP2
    have hM := MA_fr hM hk (fun q h z => by rcases z with z | z; exact hxy q z h; exact hoy (by rw [← z]; exact h))
    refine va_forget (fun q hq => hS.2.2 q hq) ?_
    have hS := va_S_nil hS
    have hSW := hSW0.keep (fun q h => hS.2.1 q h (Nat.not_le.mpr h))
    refine W.widen (k := cells + 1) (n := slots + 6) (Nat.le_refl _) (Nat.le_refl _) ?_
    refine lv_istore (lv' := [(5, .int (iI 1)), (0, .ref b), (1, .ref x0), (2, .ref y0), (3, .ref o), (4, .int (iI i))]) hx hb dL_law_928 hl (by decide) rfl (fun ls hl => ?_)
    refine lv_aload_n hx hb dL_law_930 rfl (lv_at hl 3 rfl) ?_
    refine lv_aload_n hx hb dL_law_931 rfl (lv_at hl 1 rfl) ?_
    refine lv_iload hx hb dL_law_932 (lv_at hl 5 rfl) ?_
    refine pv_iconst hx hb dL_law_934 ?_
    refine pv_iadd hx hb dL_law_935 ?_
    refine pv_sld (v := u) hx hb hX hbl hbA hS (by omega) (by omega) hu dL_law_936 ?_
    refine mu_callV (As := [.int (iI u)]) (rest := []) AP_mv ⟨hx, hb, hml, hown, hts⟩ (d_M_spread l D cI cZ s.heap.size st Z y0 y1 y2 y3 y6 y7 y8 u hur hlv) (cwV 1 hts gL_law_X1_spread rfl rfl rfl (by decide +kernel) ⟨(Nat.le_of_ble_eq_true rfl), (Nat.le_of_ble_eq_true rfl)⟩) ⟨hSW, hM⟩ (AP_rc ⟨hSW, hM⟩) rfl rfl hl.1 (Nat.le_of_ble_eq_true rfl) dL_law_937 ⟨by show cells + 1 + 0 ≤ 601024; omega, by show slots + 6 + 0 ≤ 7293034; omega⟩ hS (MA_b hM) (fun H locs hP2 hz hk hS => ?_)
    have hC := CW_fr hC hk (fun q h z => hxy q h z)
    have hO := OC_fr hO hk hoy
    have hM := hP2
    try dsimp only at hM
    refine va_forget (fun q hq => hS.2.2 q hq) ?_
    have hS := va_S_nil hS
    have hSW := hSW0.keep (fun q h => hS.2.1 q h (Nat.not_le.mpr h))
    refine lv_istore (lv' := [(6, .int (iI (0))), (5, .int (iI 1)), (0, .ref b), (1, .ref x0), (2, .ref y0), (3, .ref o), (4, .int (iI i))]) hx hb dL_law_940 hl (by decide) rfl (fun ls hl => ?_)
    refine lv_aload_n hx hb dL_law_942 rfl (lv_at hl 4 rfl) ?_
    refine pu_callV (v := 1) (As := []) (rest := []) AP_mv ⟨hx, hb, hml, hown, hts⟩ (c_M_thrown l D cI cZ s.heap.size st Z y0 y1 y2 y3 y6 y7 y8) (cwV 0 hts gL_law_X1_thrown rfl rfl rfl (by decide +kernel) ⟨(Nat.le_of_ble_eq_true rfl), (Nat.le_of_ble_eq_true rfl)⟩) ⟨hSW, hM⟩ (AP_rc ⟨hSW, hM⟩) rfl rfl hl.1 (Nat.le_of_ble_eq_true rfl) dL_law_943 ⟨by show cells + 1 + 0 ≤ 601024; omega, by show slots + 6 + 0 ≤ 7293034; omega⟩ ?_
    refine lv_iload hx hb dL_law_946 (lv_at hl 1 rfl) ?_
    refine pv_same (tgt := 953) hx hb dL_law_948 (by decide) ?_
    refine lv_iload hx hb dL_law_953 (lv_at hl 1 rfl) ?_
    refine pv_if_ne (tgt := 970) hx hb dL_law_955 (by decide) (by omega) (fun c9 => ?_) (fun c9 => ?_)
    rotate_left
    · exact absurd c9 (by omega)
    refine lv_goto (tgt := 1234) hx hb dL_law_970 (by decide) ?_
    exact K _ _ _ _ _ _ _ _ _ _ _ _ hI hC hM hO hS (lv_sub hl [2, 3, 4, 5, 6] rfl)
set_option maxHeartbeats 4000000 in
set_option maxRecDepth 100000 in
theorem arm_18 {p : Program} {e : Env} {s : State} {m : MethodId} {below : List Frame} {meth : Method} {c : Code} (l : Launch) (hfl : l.stackTraces = false) {b L : Nat} {xs : Nat → Int32} (hL : L ≤ 1536) (C0 : lw_At p s m meth c b L xs)
    {D : va_G} {cI cZ cJ : ClassId} {st : Nat} {Z : Nat → Nat} (hSW0 : SW D cI cZ s.heap.size st Z s s.heap) (hKJ : va_K D vwCl [(cJ, .long)] s) (hnc1 : va_Nc "java/lang/IllegalStateException" "java/lang/IndexOutOfBoundsException" s) (hnc2 : va_Nc "java/lang/IllegalArgumentException" "java/lang/IndexOutOfBoundsException" s)
    {x0 x1 x2 x5 x6 x7 y0 y1 y2 y3 y6 y7 y8 o : Nat} (hxy : ∀ q, mC x0 x1 x2 x5 x6 x7 q → ¬ mM y0 y1 y2 y3 y6 y7 y8 q) (hox : ¬ mC x0 x1 x2 x5 x6 x7 o) (hoy : ¬ mM y0 y1 y2 y3 y6 y7 y8 o) (hob : s.heap.size ≤ o)
    {n came MV th : Int} {F G SP RF RC : Int → Int} (hI : INV n came F G RF) {H : Heap} (hC : CW D cI s.heap.size x0 x1 x2 x5 x6 x7 n came MV F G SP RF RC H) (hM : MA D cI cZ s.heap.size y0 y1 y2 y3 y6 y7 y8 n came MV th F G SP RF RC H) {lf : Nat → Int64} (hO : OC D cJ o lf H) (hS : va_S (fun q : Nat => s.heap.size ≤ q) s.heap H []) {i : Int} (hi : 0 ≤ i ∧ i + 2 < L) {ls : Array Slot} (hl : lv_has ls 7 [(0, .ref b), (1, .ref x0), (2, .ref y0), (3, .ref o), (4, .int (iI i))]) {cells slots : Nat} (hc : cells + 1 ≤ 601024) (hs9 : slots + 6 ≤ 7293034)
    (K : ∀ (n came MV th : Int) (F G SP RF RC : Int → Int) (H : Heap) (lf : Nat → Int64) (ls : Array Slot), INV n came F G RF → CW D cI s.heap.size x0 x1 x2 x5 x6 x7 n came MV F G SP RF RC H → MA D cI cZ s.heap.size y0 y1 y2 y3 y6 y7 y8 n came MV th F G SP RF RC H → OC D cJ o lf H → va_S (fun q : Nat => s.heap.size ≤ q) s.heap H [] → lv_has ls 7 [(0, .ref b), (1, .ref x0), (2, .ref y0), (3, .ref o), (4, .int (iI i))] → W p l e room_1 s m #[Value.ref b] below meth c H [] (cells + 1) (slots + 6) (lw_Z below #[Value.ref b] s) (F0 m 1234 ls [])) : W p l e room_1 s m #[Value.ref b] below meth c H [] (cells) (slots) (lw_Z below #[Value.ref b] s) (F0 m 973 ls []) := by
  obtain ⟨hx, hb, hr, hml, hown, hts0, hX, hbl, hlocks, hgv⟩ := id C0
  have hts : ∀ w ∈ wsL_law, w.before #[Value.ref b] s = true := fun w h => hts0 w (wsL_law_in w h)
  have hbA : ¬ (fun q : Nat => s.heap.size ≤ q) b := Nat.not_le.mpr hbl
  have hSW := hSW0.keep (fun q h => hS.2.1 q h (Nat.not_le.mpr h))
  obtain ⟨hn, hcm, hF, hfc, hFi, hG, hs, hRI0⟩ := id hI
  have hRF := INV_RF hI
  obtain ⟨u, hur, hu⟩ := iI_of (xs (i + 1).toNat)
  obtain ⟨v, hvr, hv⟩ := iI_of (xs (i + 2).toNat)
  by_cases hu9 : 0 ≤ u ∧ u < 4
  · skip
    by_cases h0 : 0 ≤ pl F n v
    · skip
      have hrp := pl_PL (F := F) hn.1 v
      obtain ⟨hp1, hp2, hp3⟩ := PL_p hrp h0
      refine lv_aload_n hx hb dL_law_973 rfl (lv_at hl 1 rfl) ?_
      refine lv_aload_n hx hb dL_law_974 rfl (lv_at hl 0 rfl) ?_
      refine lv_iload hx hb dL_law_975 (lv_at hl 4 rfl) ?_
      refine pv_iconst hx hb dL_law_977 ?_
      refine pv_iadd hx hb dL_law_978 ?_
      refine pv_sld (v := u) hx hb hX hbl hbA hS (by omega) (by omega) hu dL_law_979 ?_
      refine lv_aload_n hx hb dL_law_980 rfl (lv_at hl 0 rfl) ?_
      refine lv_iload hx hb dL_law_981 (lv_at hl 4 rfl) ?_
      refine pv_iconst hx hb dL_law_983 ?_
      refine pv_iadd hx hb dL_law_984 ?_
      refine pv_sld (v := v) hx hb hX hbl hbA hS (by omega) (by omega) hv dL_law_985 ?_
      refine lv_aload_n hx hb dL_law_986 rfl (lv_at hl 3 rfl) ?_
      refine wr_call (As := [.ref x0, .int (iI u), .int (iI v), .ref o]) (rest := []) WP_mv ⟨hx, hb, hml, hown, hts⟩ (w_seat l D cI cZ cJ s.heap.size st Z x0 x1 x2 x5 x6 x7 o hn hF hRF u hu9 v hvr (pl F n v) hrp h0) (vx_cwSW 4 hts gL_law_L_seat rfl rfl rfl (by decide +kernel) ⟨(Nat.le_of_ble_eq_true rfl), (Nat.le_of_ble_eq_true rfl)⟩) ⟨⟨hSW, hC⟩, hKJ, ⟨lf, hO⟩, hox, hnc1, hnc2⟩ rfl rfl hl.1 (Nat.le_of_ble_eq_true rfl) dL_law_987 ⟨by show cells + 0 ≤ 601024; omega, by show slots + 0 ≤ 7293034; omega⟩ hS (fun q h => by rcases h with h | h; exact CW_b hC q h; rw [h]; exact hob) (fun H locs hP2 hz hk hS => ?_)
      obtain ⟨hC, lf, hv9, hO⟩ := hP2
      have hM := MA_fr hM hk (fun q h z => by rcases z with z | z; exact hxy q z h; exact hoy (by rw [← z]; exact h))
      refine va_forget (fun q hq => hS.2.2 q hq) ?_
      have hS := va_S_nil hS
      have hSW := hSW0.keep (fun q h => hS.2.1 q h (Nat.not_le.mpr h))
      refine W.widen (k := cells + 1) (n := slots + 6) (by omega) (by omega) ?_
      refine lv_istore (lv' := [(5, .int (iI 0)), (0, .ref b), (1, .ref x0), (2, .ref y0), (3, .ref o), (4, .int (iI i))]) hx hb dL_law_990 hl (by decide) rfl (fun ls hl => ?_)
      refine lv_aload_n hx hb dL_law_992 rfl (lv_at hl 3 rfl) ?_
      refine lv_aload_n hx hb dL_law_993 rfl (lv_at hl 1 rfl) ?_
      refine lv_iload hx hb dL_law_994 (lv_at hl 5 rfl) ?_
      refine pv_iconst hx hb dL_law_996 ?_
      refine pv_iadd hx hb dL_law_997 ?_
      refine pv_sld (v := u) hx hb hX hbl hbA hS (by omega) (by omega) hu dL_law_998 ?_
      refine lv_aload_n hx hb dL_law_999 rfl (lv_at hl 1 rfl) ?_
      refine lv_iload hx hb dL_law_1000 (lv_at hl 5 rfl) ?_
      refine pv_iconst hx hb dL_law_1002 ?_
      refine pv_iadd hx hb dL_law_1003 ?_
      refine pv_sld (v := v) hx hb hX hbl hbA hS (by omega) (by omega) hv dL_law_1004 ?_
      refine mu_callV (As := [.int (iI u), .int (iI v)]) (rest := []) AP_mv ⟨hx, hb, hml, hown, hts⟩ (c_M_seat l D cI cZ s.heap.size st Z y0 y1 y2 y3 y6 y7 y8 hn hF v hvr (pl F n v) hrp h0 hRF u hu9) (cwV 2 hts gL_law_X1_seat rfl rfl rfl (by decide +kernel) ⟨(Nat.le_of_ble_eq_true rfl), (Nat.le_of_ble_eq_true rfl)⟩) ⟨hSW, hM⟩ (AP_rc ⟨hSW, hM⟩) rfl rfl hl.1 (Nat.le_of_ble_eq_true rfl) dL_law_1005 ⟨by show cells + 1 + 0 ≤ 601024; omega, by show slots + 6 + 0 ≤ 7293034; omega⟩ hS (MA_b hM) (fun H locs hP2 hz hk hS => ?_)
      have hC := CW_fr hC hk (fun q h z => hxy q h z)
      have hO := OC_fr hO hk hoy
      have hM := hP2
      try dsimp only at hM
      refine va_forget (fun q hq => hS.2.2 q hq) ?_
      have hS := va_S_nil hS
      have hSW := hSW0.keep (fun q h => hS.2.1 q h (Nat.not_le.mpr h))
      refine lv_istore (lv' := [(6, .int (iI (cn (fun k => decide (uI RF u v k = v)) 4))), (5, .int (iI 0)), (0, .ref b), (1, .ref x0), (2, .ref y0), (3, .ref o), (4, .int (iI i))]) hx hb dL_law_1008 hl (by decide) rfl (fun ls hl => ?_)
      refine lv_aload_n hx hb dL_law_1010 rfl (lv_at hl 4 rfl) ?_
      refine pu_callV (v := 0) (As := []) (rest := []) AP_mv ⟨hx, hb, hml, hown, hts⟩ (c_M_thrown l D cI cZ s.heap.size st Z y0 y1 y2 y3 y6 y7 y8) (cwV 0 hts gL_law_X1_thrown rfl rfl rfl (by decide +kernel) ⟨(Nat.le_of_ble_eq_true rfl), (Nat.le_of_ble_eq_true rfl)⟩) ⟨hSW, hM⟩ (AP_rc ⟨hSW, hM⟩) rfl rfl hl.1 (Nat.le_of_ble_eq_true rfl) dL_law_1011 ⟨by show cells + 1 + 0 ≤ 601024; omega, by show slots + 6 + 0 ≤ 7293034; omega⟩ ?_
      refine lv_iload hx hb dL_law_1014 (lv_at hl 1 rfl) ?_
      refine pv_same (tgt := 1021) hx hb dL_law_1016 (by decide) ?_
      refine lv_iload hx hb dL_law_1021 (lv_at hl 1 rfl) ?_
      refine pv_if_ne (tgt := 1038) hx hb dL_law_1023 (by decide) (by omega) (fun c9 => ?_) (fun c9 => ?_)
      · exact absurd rfl c9
      refine lv_aload_n hx hb dL_law_1026 rfl (lv_at hl 5 rfl) ?_
      refine pv_iconst hx hb dL_law_1027 ?_
      refine pv_lald hx hb hKJ hO hv9 dL_law_1028 ?_
      refine lv_iload hx hb dL_law_1029 (lv_at hl 0 rfl) ?_
      refine lv_i2l (v := (iI (cn (fun k => decide (uI RF u v k = v)) 4)).toInt64) hx hb dL_law_1031 rfl ?_
      refine W.lcmp hx hb dL_law_1032 ?_
      rw [lg_cmp_s]
      refine pv_if_eq (tgt := 1038) hx hb dL_law_1033 (by decide) (by omega) (fun c9 => ?_) (fun c9 => absurd rfl c9)
      refine lv_goto (tgt := 1234) hx hb dL_law_1038 (by decide) ?_
      exact K _ _ _ _ _ _ _ _ _ _ _ _ (INV_seat hI ⟨hp1, hp2, hp3⟩) hC hM hO hS (lv_sub hl [2, 3, 4, 5, 6] rfl)
    · skip
      have hrp : PL F n v (-1) := by have h1 := pl_PL (F := F) hn.1 v; have h2 := PL_rg hn.1 h1; rw [show pl F n v = -1 by omega] at h1; exact h1
      refine lv_aload_n hx hb dL_law_973 rfl (lv_at hl 1 rfl) ?_
      refine lv_aload_n hx hb dL_law_974 rfl (lv_at hl 0 rfl) ?_
      refine lv_iload hx hb dL_law_975 (lv_at hl 4 rfl) ?_
      refine pv_iconst hx hb dL_law_977 ?_
      refine pv_iadd hx hb dL_law_978 ?_
      refine pv_sld (v := u) hx hb hX hbl hbA hS (by omega) (by omega) hu dL_law_979 ?_
      refine lv_aload_n hx hb dL_law_980 rfl (lv_at hl 0 rfl) ?_
      refine lv_iload hx hb dL_law_981 (lv_at hl 4 rfl) ?_
      refine pv_iconst hx hb dL_law_983 ?_
      refine pv_iadd hx hb dL_law_984 ?_
      refine pv_sld (v := v) hx hb hX hbl hbA hS (by omega) (by omega) hv dL_law_985 ?_
      refine lv_aload_n hx hb dL_law_986 rfl (lv_at hl 3 rfl) ?_
      refine wr_call (As := [.ref x0, .int (iI u), .int (iI v), .ref o]) (rest := []) WP_mv ⟨hx, hb, hml, hown, hts⟩ (v_seat2 l D cI cZ cJ s.heap.size st Z x0 x1 x2 x5 x6 x7 o hfl hn hF u hu9 v hvr hrp) (vx_cwSW 4 hts gL_law_L_seat rfl rfl rfl (by decide +kernel) ⟨(Nat.le_of_ble_eq_true rfl), (Nat.le_of_ble_eq_true rfl)⟩) ⟨⟨hSW, hC⟩, hKJ, ⟨lf, hO⟩, hox, hnc1, hnc2⟩ rfl rfl hl.1 (Nat.le_of_ble_eq_true rfl) dL_law_987 ⟨by show cells + 1 ≤ 601024; omega, by show slots + 6 ≤ 7293034; omega⟩ hS (fun q h => by rcases h with h | h; exact CW_b hC q h; rw [h]; exact hob) (fun H locs hP2 hz hk hS => ?_)
      obtain ⟨hC, lf, hO⟩ := hP2
      have hM := MA_fr hM hk (fun q h z => by rcases z with z | z; exact hxy q z h; exact hoy (by rw [← z]; exact h))
      refine va_forget (fun q hq => hS.2.2 q hq) ?_
      have hS := va_S_nil hS
      have hSW := hSW0.keep (fun q h => hS.2.1 q h (Nat.not_le.mpr h))
      refine W.widen (k := cells + 1) (n := slots + 6) (Nat.le_refl _) (Nat.le_refl _) ?_
      refine lv_istore (lv' := [(5, .int (iI 1)), (0, .ref b), (1, .ref x0), (2, .ref y0), (3, .ref o), (4, .int (iI i))]) hx hb dL_law_990 hl (by decide) rfl (fun ls hl => ?_)
      refine lv_aload_n hx hb dL_law_992 rfl (lv_at hl 3 rfl) ?_
      refine lv_aload_n hx hb dL_law_993 rfl (lv_at hl 1 rfl) ?_
      refine lv_iload hx hb dL_law_994 (lv_at hl 5 rfl) ?_
      refine pv_iconst hx hb dL_law_996 ?_
      refine pv_iadd hx hb dL_law_997 ?_
      refine pv_sld (v := u) hx hb hX hbl hbA hS (by omega) (by omega) hu dL_law_998 ?_
      refine lv_aload_n hx hb dL_law_999 rfl (lv_at hl 1 rfl) ?_
      refine lv_iload hx hb dL_law_1000 (lv_at hl 5 rfl) ?_
      refine pv_iconst hx hb dL_law_1002 ?_
      refine pv_iadd hx hb dL_law_1003 ?_
      refine pv_sld (v := v) hx hb hX hbl hbA hS (by omega) (by omega) hv dL_law_1004 ?_
      refine mu_callV (As := [.int (iI u), .int (iI v)]) (rest := []) AP_mv ⟨hx, hb, hml, hown, hts⟩ (d_M_seat2 l D cI cZ s.heap.size st Z y0 y1 y2 y3 y6 y7 y8 u hu9 v hvr hrp) (cwV 2 hts gL_law_X1_seat rfl rfl rfl (by decide +kernel) ⟨(Nat.le_of_ble_eq_true rfl), (Nat.le_of_ble_eq_true rfl)⟩) ⟨hSW, hM⟩ (AP_rc ⟨hSW, hM⟩) rfl rfl hl.1 (Nat.le_of_ble_eq_true rfl) dL_law_1005 ⟨by show cells + 1 + 0 ≤ 601024; omega, by show slots + 6 + 0 ≤ 7293034; omega⟩ hS (MA_b hM) (fun H locs hP2 hz hk hS => ?_)
      have hC := CW_fr hC hk (fun q h z => hxy q h z)
      have hO := OC_fr hO hk hoy
      have hM := hP2
      try dsimp only at hM
      refine va_forget (fun q hq => hS.2.2 q hq) ?_
      have hS := va_S_nil hS
      have hSW := hSW0.keep (fun q h => hS.2.1 q h (Nat.not_le.mpr h))
      refine lv_istore (lv' := [(6, .int (iI (0))), (5, .int (iI 1)), (0, .ref b), (1, .ref x0), (2, .ref y0), (3, .ref o), (4, .int (iI i))]) hx hb dL_law_1008 hl (by decide) rfl (fun ls hl => ?_)
      refine lv_aload_n hx hb dL_law_1010 rfl (lv_at hl 4 rfl) ?_
      refine pu_callV (v := 1) (As := []) (rest := []) AP_mv ⟨hx, hb, hml, hown, hts⟩ (c_M_thrown l D cI cZ s.heap.size st Z y0 y1 y2 y3 y6 y7 y8) (cwV 0 hts gL_law_X1_thrown rfl rfl rfl (by decide +kernel) ⟨(Nat.le_of_ble_eq_true rfl), (Nat.le_of_ble_eq_true rfl)⟩) ⟨hSW, hM⟩ (AP_rc ⟨hSW, hM⟩) rfl rfl hl.1 (Nat.le_of_ble_eq_true rfl) dL_law_1011 ⟨by show cells + 1 + 0 ≤ 601024; omega, by show slots + 6 + 0 ≤ 7293034; omega⟩ ?_
      refine lv_iload hx hb dL_law_1014 (lv_at hl 1 rfl) ?_
      refine pv_same (tgt := 1021) hx hb dL_law_1016 (by decide) ?_
      refine lv_iload hx hb dL_law_1021 (lv_at hl 1 rfl) ?_
      refine pv_if_ne (tgt := 1038) hx hb dL_law_1023 (by decide) (by omega) (fun c9 => ?_) (fun c9 => ?_)
      rotate_left
      · exact absurd c9 (by omega)
      refine lv_goto (tgt := 1234) hx hb dL_law_1038 (by decide) ?_
      exact K _ _ _ _ _ _ _ _ _ _ _ _ hI hC hM hO hS (lv_sub hl [2, 3, 4, 5, 6] rfl)
  · skip
    refine lv_aload_n hx hb dL_law_973 rfl (lv_at hl 1 rfl) ?_
    refine lv_aload_n hx hb dL_law_974 rfl (lv_at hl 0 rfl) ?_
    refine lv_iload hx hb dL_law_975 (lv_at hl 4 rfl) ?_
    refine pv_iconst hx hb dL_law_977 ?_
    refine pv_iadd hx hb dL_law_978 ?_
    refine pv_sld (v := u) hx hb hX hbl hbA hS (by omega) (by omega) hu dL_law_979 ?_
    refine lv_aload_n hx hb dL_law_980 rfl (lv_at hl 0 rfl) ?_
    refine lv_iload hx hb dL_law_981 (lv_at hl 4 rfl) ?_
    refine pv_iconst hx hb dL_law_983 ?_
    refine pv_iadd hx hb dL_law_984 ?_
    refine pv_sld (v := v) hx hb hX hbl hbA hS (by omega) (by omega) hv dL_law_985 ?_
    refine lv_aload_n hx hb dL_law_986 rfl (lv_at hl 3 rfl) ?_
    refine wr_call (As := [.ref x0, .int (iI u), .int (iI v), .ref o]) (rest := []) WP_mv ⟨hx, hb, hml, hown, hts⟩ (v_seat l D cI cZ cJ s.heap.size st Z x0 x1 x2 x5 x6 x7 o hfl u hur hu9 v) (vx_cwSW 4 hts gL_law_L_seat rfl rfl rfl (by decide +kernel) ⟨(Nat.le_of_ble_eq_true rfl), (Nat.le_of_ble_eq_true rfl)⟩) ⟨⟨hSW, hC⟩, hKJ, ⟨lf, hO⟩, hox, hnc1, hnc2⟩ rfl rfl hl.1 (Nat.le_of_ble_eq_true rfl) dL_law_987 ⟨by show cells + 1 ≤ 601024; omega, by show slots + 6 ≤ 7293034; omega⟩ hS (fun q h => by rcases h with h | h; exact CW_b hC q h; rw [h]; exact hob) (fun H locs hP2 hz hk hS => ?_)
    obtain ⟨hC, lf, hO⟩ := hP2
    have hM := MA_fr hM hk (fun q h z => by rcases z with z | z; exact hxy q z h; exact hoy (by rw [← z]; exact h))
    refine va_forget (fun q hq => hS.2.2 q hq) ?_
    have hS := va_S_nil hS
    have hSW := hSW0.keep (fun q h => hS.2.1 q h (Nat.not_le.mpr h))
    refine W.widen (k := cells + 1) (n := slots + 6) (Nat.le_refl _) (Nat.le_refl _) ?_
    refine lv_istore (lv' := [(5, .int (iI 1)), (0, .ref b), (1, .ref x0), (2, .ref y0), (3, .ref o), (4, .int (iI i))]) hx hb dL_law_990 hl (by decide) rfl (fun ls hl => ?_)
    refine lv_aload_n hx hb dL_law_992 rfl (lv_at hl 3 rfl) ?_
    refine lv_aload_n hx hb dL_law_993 rfl (lv_at hl 1 rfl) ?_
    refine lv_iload hx hb dL_law_994 (lv_at hl 5 rfl) ?_
    refine pv_iconst hx hb dL_law_996 ?_
    refine pv_iadd hx hb dL_law_997 ?_
    refine pv_sld (v := u) hx hb hX hbl hbA hS (by omega) (by omega) hu dL_law_998 ?_
    refine lv_aload_n hx hb dL_law_999 rfl (lv_at hl 1 rfl) ?_
    refine lv_iload hx hb dL_law_1000 (lv_at hl 5 rfl) ?_
    refine pv_iconst hx hb dL_law_1002 ?_
    refine pv_iadd hx hb dL_law_1003 ?_
    refine pv_sld (v := v) hx hb hX hbl hbA hS (by omega) (by omega) hv dL_law_1004 ?_
    refine mu_callV (As := [.int (iI u), .int (iI v)]) (rest := []) AP_mv ⟨hx, hb, hml, hown, hts⟩ (d_M_seat l D cI cZ s.heap.size st Z y0 y1 y2 y3 y6 y7 y8 u hur hu9 v) (cwV 2 hts gL_law_X1_seat rfl rfl rfl (by decide +kernel) ⟨(Nat.le_of_ble_eq_true rfl), (Nat.le_of_ble_eq_true rfl)⟩) ⟨hSW, hM⟩ (AP_rc ⟨hSW, hM⟩) rfl rfl hl.1 (Nat.le_of_ble_eq_true rfl) dL_law_1005 ⟨by show cells + 1 + 0 ≤ 601024; omega, by show slots + 6 + 0 ≤ 7293034; omega⟩ hS (MA_b hM) (fun H locs hP2 hz hk hS => ?_)
    have hC := CW_fr hC hk (fun q h z => hxy q h z)
    have hO := OC_fr hO hk hoy
    have hM := hP2
    try dsimp only at hM
    refine va_forget (fun q hq => hS.2.2 q hq) ?_
    have hS := va_S_nil hS
    have hSW := hSW0.keep (fun q h => hS.2.1 q h (Nat.not_le.mpr h))
    refine lv_istore (lv' := [(6, .int (iI (0))), (5, .int (iI 1)), (0, .ref b), (1, .ref x0), (2, .ref y0), (3, .ref o), (4, .int (iI i))]) hx hb dL_law_1008 hl (by decide) rfl (fun ls hl => ?_)
    refine lv_aload_n hx hb dL_law_1010 rfl (lv_at hl 4 rfl) ?_
    refine pu_callV (v := 1) (As := []) (rest := []) AP_mv ⟨hx, hb, hml, hown, hts⟩ (c_M_thrown l D cI cZ s.heap.size st Z y0 y1 y2 y3 y6 y7 y8) (cwV 0 hts gL_law_X1_thrown rfl rfl rfl (by decide +kernel) ⟨(Nat.le_of_ble_eq_true rfl), (Nat.le_of_ble_eq_true rfl)⟩) ⟨hSW, hM⟩ (AP_rc ⟨hSW, hM⟩) rfl rfl hl.1 (Nat.le_of_ble_eq_true rfl) dL_law_1011 ⟨by show cells + 1 + 0 ≤ 601024; omega, by show slots + 6 + 0 ≤ 7293034; omega⟩ ?_
    refine lv_iload hx hb dL_law_1014 (lv_at hl 1 rfl) ?_
    refine pv_same (tgt := 1021) hx hb dL_law_1016 (by decide) ?_
    refine lv_iload hx hb dL_law_1021 (lv_at hl 1 rfl) ?_
    refine pv_if_ne (tgt := 1038) hx hb dL_law_1023 (by decide) (by omega) (fun c9 => ?_) (fun c9 => ?_)
    rotate_left
    · exact absurd c9 (by omega)
    refine lv_goto (tgt := 1234) hx hb dL_law_1038 (by decide) ?_
    exact K _ _ _ _ _ _ _ _ _ _ _ _ hI hC hM hO hS (lv_sub hl [2, 3, 4, 5, 6] rfl)
set_option maxHeartbeats 4000000 in
set_option maxRecDepth 100000 in
theorem arm_19 {p : Program} {e : Env} {s : State} {m : MethodId} {below : List Frame} {meth : Method} {c : Code} (l : Launch) (hfl : l.stackTraces = false) {b L : Nat} {xs : Nat → Int32} (hL : L ≤ 1536) (C0 : lw_At p s m meth c b L xs)
    {D : va_G} {cI cZ cJ : ClassId} {st : Nat} {Z : Nat → Nat} (hSW0 : SW D cI cZ s.heap.size st Z s s.heap) (hKJ : va_K D vwCl [(cJ, .long)] s) (hnc1 : va_Nc "java/lang/IllegalStateException" "java/lang/IndexOutOfBoundsException" s) (hnc2 : va_Nc "java/lang/IllegalArgumentException" "java/lang/IndexOutOfBoundsException" s)
    {x0 x1 x2 x5 x6 x7 y0 y1 y2 y3 y6 y7 y8 o : Nat} (hxy : ∀ q, mC x0 x1 x2 x5 x6 x7 q → ¬ mM y0 y1 y2 y3 y6 y7 y8 q) (hox : ¬ mC x0 x1 x2 x5 x6 x7 o) (hoy : ¬ mM y0 y1 y2 y3 y6 y7 y8 o) (hob : s.heap.size ≤ o)
    {n came MV th : Int} {F G SP RF RC : Int → Int} (hI : INV n came F G RF) {H : Heap} (hC : CW D cI s.heap.size x0 x1 x2 x5 x6 x7 n came MV F G SP RF RC H) (hM : MA D cI cZ s.heap.size y0 y1 y2 y3 y6 y7 y8 n came MV th F G SP RF RC H) {lf : Nat → Int64} (hO : OC D cJ o lf H) (hS : va_S (fun q : Nat => s.heap.size ≤ q) s.heap H []) {i : Int} (hi : 0 ≤ i ∧ i + 2 < L) {ls : Array Slot} (hl : lv_has ls 7 [(0, .ref b), (1, .ref x0), (2, .ref y0), (3, .ref o), (4, .int (iI i))]) {cells slots : Nat} (hc : cells + 1 ≤ 601024) (hs9 : slots + 6 ≤ 7293034)
    (K : ∀ (n came MV th : Int) (F G SP RF RC : Int → Int) (H : Heap) (lf : Nat → Int64) (ls : Array Slot), INV n came F G RF → CW D cI s.heap.size x0 x1 x2 x5 x6 x7 n came MV F G SP RF RC H → MA D cI cZ s.heap.size y0 y1 y2 y3 y6 y7 y8 n came MV th F G SP RF RC H → OC D cJ o lf H → va_S (fun q : Nat => s.heap.size ≤ q) s.heap H [] → lv_has ls 7 [(0, .ref b), (1, .ref x0), (2, .ref y0), (3, .ref o), (4, .int (iI i))] → W p l e room_1 s m #[Value.ref b] below meth c H [] (cells + 1) (slots + 6) (lw_Z below #[Value.ref b] s) (F0 m 1234 ls [])) : W p l e room_1 s m #[Value.ref b] below meth c H [] (cells) (slots) (lw_Z below #[Value.ref b] s) (F0 m 1041 ls []) := by
  obtain ⟨hx, hb, hr, hml, hown, hts0, hX, hbl, hlocks, hgv⟩ := id C0
  have hts : ∀ w ∈ wsL_law, w.before #[Value.ref b] s = true := fun w h => hts0 w (wsL_law_in w h)
  have hbA : ¬ (fun q : Nat => s.heap.size ≤ q) b := Nat.not_le.mpr hbl
  have hSW := hSW0.keep (fun q h => hS.2.1 q h (Nat.not_le.mpr h))
  obtain ⟨hn, hcm, hF, hfc, hFi, hG, hs, hRI0⟩ := id hI
  have hRF := INV_RF hI
  refine lv_aload_n hx hb dL_law_1041 rfl (lv_at hl 1 rfl) ?_
  refine mu_callV (As := []) (rest := []) CP_mv ⟨hx, hb, hml, hown, hts⟩ (c_passDay l D cI cZ s.heap.size st Z x0 x1 x2 x5 x6 x7 hn hF hRF) (cwV 0 hts gL_law_X0_passDay rfl rfl rfl (by decide +kernel) ⟨(Nat.le_of_ble_eq_true rfl), (Nat.le_of_ble_eq_true rfl)⟩) ⟨hSW, hC⟩ (CP_rc ⟨hSW, hC⟩) rfl rfl hl.1 (Nat.le_of_ble_eq_true rfl) dL_law_1042 ⟨by show cells + 0 ≤ 601024; omega, by show slots + 0 ≤ 7293034; omega⟩ hS (CW_b hC) (fun H locs hP2 hz hk hS => ?_)
  have hM := MA_fr hM hk (fun q h z => hxy q z h)
  have hO := OC_fr hO hk hox
  have hC := hP2
  try dsimp only at hC
  refine va_forget (fun q hq => hS.2.2 q hq) ?_
  have hS := va_S_nil hS
  have hSW := hSW0.keep (fun q h => hS.2.1 q h (Nat.not_le.mpr h))
  refine lv_aload_n hx hb dL_law_1045 rfl (lv_at hl 2 rfl) ?_
  refine mu_callV (As := []) (rest := [.int (iI (cn (fun j => decide (pdF F n RF j ≠ -1)) 4))]) AP_mv ⟨hx, hb, hml, hown, hts⟩ (c_M_passDay l D cI cZ s.heap.size st Z y0 y1 y2 y3 y6 y7 y8 hn hF hRF (INV_RI hI)) (cwV 0 hts gL_law_X1_passDay rfl rfl rfl (by decide +kernel) ⟨(Nat.le_of_ble_eq_true rfl), (Nat.le_of_ble_eq_true rfl)⟩) ⟨hSW, hM⟩ (AP_rc ⟨hSW, hM⟩) rfl rfl hl.1 (Nat.le_of_ble_eq_true rfl) dL_law_1046 ⟨by show cells + 0 ≤ 601024; omega, by show slots + 0 ≤ 7293034; omega⟩ hS (MA_b hM) (fun H locs hP2 hz hk hS => ?_)
  have hC := CW_fr hC hk (fun q h z => hxy q h z)
  have hO := OC_fr hO hk hoy
  have hM := hP2
  try dsimp only at hM
  refine va_forget (fun q hq => hS.2.2 q hq) ?_
  have hS := va_S_nil hS
  have hSW := hSW0.keep (fun q h => hS.2.1 q h (Nat.not_le.mpr h))
  refine pv_same (tgt := 1234) hx hb dL_law_1049 (by decide) ?_
  refine W.widen (k := cells + 1) (n := slots + 6) (by omega) (by omega) ?_
  exact K _ _ _ _ _ _ _ _ _ _ _ _ (INV_day hI) hC hM hO hS (lv_sub hl [0, 1, 2, 3, 4] rfl)
set_option maxHeartbeats 4000000 in
set_option maxRecDepth 100000 in
theorem arm_20 {p : Program} {e : Env} {s : State} {m : MethodId} {below : List Frame} {meth : Method} {c : Code} (l : Launch) (hfl : l.stackTraces = false) {b L : Nat} {xs : Nat → Int32} (hL : L ≤ 1536) (C0 : lw_At p s m meth c b L xs)
    {D : va_G} {cI cZ cJ : ClassId} {st : Nat} {Z : Nat → Nat} (hSW0 : SW D cI cZ s.heap.size st Z s s.heap) (hKJ : va_K D vwCl [(cJ, .long)] s) (hnc1 : va_Nc "java/lang/IllegalStateException" "java/lang/IndexOutOfBoundsException" s) (hnc2 : va_Nc "java/lang/IllegalArgumentException" "java/lang/IndexOutOfBoundsException" s)
    {x0 x1 x2 x5 x6 x7 y0 y1 y2 y3 y6 y7 y8 o : Nat} (hxy : ∀ q, mC x0 x1 x2 x5 x6 x7 q → ¬ mM y0 y1 y2 y3 y6 y7 y8 q) (hox : ¬ mC x0 x1 x2 x5 x6 x7 o) (hoy : ¬ mM y0 y1 y2 y3 y6 y7 y8 o) (hob : s.heap.size ≤ o)
    {n came MV th : Int} {F G SP RF RC : Int → Int} (hI : INV n came F G RF) {H : Heap} (hC : CW D cI s.heap.size x0 x1 x2 x5 x6 x7 n came MV F G SP RF RC H) (hM : MA D cI cZ s.heap.size y0 y1 y2 y3 y6 y7 y8 n came MV th F G SP RF RC H) {lf : Nat → Int64} (hO : OC D cJ o lf H) (hS : va_S (fun q : Nat => s.heap.size ≤ q) s.heap H []) {i : Int} (hi : 0 ≤ i ∧ i + 2 < L) {ls : Array Slot} (hl : lv_has ls 7 [(0, .ref b), (1, .ref x0), (2, .ref y0), (3, .ref o), (4, .int (iI i))]) {cells slots : Nat} (hc : cells + 1 ≤ 601024) (hs9 : slots + 6 ≤ 7293034)
    (K : ∀ (n came MV th : Int) (F G SP RF RC : Int → Int) (H : Heap) (lf : Nat → Int64) (ls : Array Slot), INV n came F G RF → CW D cI s.heap.size x0 x1 x2 x5 x6 x7 n came MV F G SP RF RC H → MA D cI cZ s.heap.size y0 y1 y2 y3 y6 y7 y8 n came MV th F G SP RF RC H → OC D cJ o lf H → va_S (fun q : Nat => s.heap.size ≤ q) s.heap H [] → lv_has ls 7 [(0, .ref b), (1, .ref x0), (2, .ref y0), (3, .ref o), (4, .int (iI i))] → W p l e room_1 s m #[Value.ref b] below meth c H [] (cells + 1) (slots + 6) (lw_Z below #[Value.ref b] s) (F0 m 1234 ls [])) : W p l e room_1 s m #[Value.ref b] below meth c H [] (cells) (slots) (lw_Z below #[Value.ref b] s) (F0 m 1054 ls []) := by
  obtain ⟨hx, hb, hr, hml, hown, hts0, hX, hbl, hlocks, hgv⟩ := id C0
  have hts : ∀ w ∈ wsL_law, w.before #[Value.ref b] s = true := fun w h => hts0 w (wsL_law_in w h)
  have hbA : ¬ (fun q : Nat => s.heap.size ≤ q) b := Nat.not_le.mpr hbl
  have hSW := hSW0.keep (fun q h => hS.2.1 q h (Nat.not_le.mpr h))
  obtain ⟨hn, hcm, hF, hfc, hFi, hG, hs, hRI0⟩ := id hI
  have hRF := INV_RF hI
  obtain ⟨u, hur, hu⟩ := iI_of (xs (i + 1).toNat)
  by_cases hlv : 0 ≤ u ∧ u < 4
  · skip
    refine lv_aload_n hx hb dL_law_1054 rfl (lv_at hl 1 rfl) ?_
    refine lv_aload_n hx hb dL_law_1055 rfl (lv_at hl 0 rfl) ?_
    refine lv_iload hx hb dL_law_1056 (lv_at hl 4 rfl) ?_
    refine pv_iconst hx hb dL_law_1058 ?_
    refine pv_iadd hx hb dL_law_1059 ?_
    refine pv_sld (v := u) hx hb hX hbl hbA hS (by omega) (by omega) hu dL_law_1060 ?_
    refine lv_aload_n hx hb dL_law_1061 rfl (lv_at hl 3 rfl) ?_
    refine wr_call (As := [.ref x0, .int (iI u), .ref o]) (rest := []) WP_mv ⟨hx, hb, hml, hown, hts⟩ (w_at l D cI cZ cJ s.heap.size st Z x0 x1 x2 x5 x6 x7 o u hlv) (vx_cwSW 3 hts gL_law_L_at rfl rfl rfl (by decide +kernel) ⟨(Nat.le_of_ble_eq_true rfl), (Nat.le_of_ble_eq_true rfl)⟩) ⟨⟨hSW, hC⟩, hKJ, ⟨lf, hO⟩, hox, hnc1, hnc2⟩ rfl rfl hl.1 (Nat.le_of_ble_eq_true rfl) dL_law_1062 ⟨by show cells + 0 ≤ 601024; omega, by show slots + 0 ≤ 7293034; omega⟩ hS (fun q h => by rcases h with h | h; exact CW_b hC q h; rw [h]; exact hob) (fun H locs hP2 hz hk hS => ?_)
    obtain ⟨hC, lf, hv9, hO⟩ := hP2
    have hM := MA_fr hM hk (fun q h z => by rcases z with z | z; exact hxy q z h; exact hoy (by rw [← z]; exact h))
    refine va_forget (fun q hq => hS.2.2 q hq) ?_
    have hS := va_S_nil hS
    have hSW := hSW0.keep (fun q h => hS.2.1 q h (Nat.not_le.mpr h))
    refine W.widen (k := cells + 1) (n := slots + 6) (by omega) (by omega) ?_
    refine lv_istore (lv' := [(5, .int (iI 0)), (0, .ref b), (1, .ref x0), (2, .ref y0), (3, .ref o), (4, .int (iI i))]) hx hb dL_law_1065 hl (by decide) rfl (fun ls hl => ?_)
    refine lv_aload_n hx hb dL_law_1067 rfl (lv_at hl 3 rfl) ?_
    refine lv_aload_n hx hb dL_law_1068 rfl (lv_at hl 1 rfl) ?_
    refine lv_iload hx hb dL_law_1069 (lv_at hl 5 rfl) ?_
    refine pv_iconst hx hb dL_law_1071 ?_
    refine pv_iadd hx hb dL_law_1072 ?_
    refine pv_sld (v := u) hx hb hX hbl hbA hS (by omega) (by omega) hu dL_law_1073 ?_
    refine mu_callV (As := [.int (iI u)]) (rest := []) AP_mv ⟨hx, hb, hml, hown, hts⟩ (c_M_at l D cI cZ s.heap.size st Z y0 y1 y2 y3 y6 y7 y8 u hlv) (cwV 1 hts gL_law_X1_at rfl rfl rfl (by decide +kernel) ⟨(Nat.le_of_ble_eq_true rfl), (Nat.le_of_ble_eq_true rfl)⟩) ⟨hSW, hM⟩ (AP_rc ⟨hSW, hM⟩) rfl rfl hl.1 (Nat.le_of_ble_eq_true rfl) dL_law_1074 ⟨by show cells + 1 + 0 ≤ 601024; omega, by show slots + 6 + 0 ≤ 7293034; omega⟩ hS (MA_b hM) (fun H locs hP2 hz hk hS => ?_)
    have hC := CW_fr hC hk (fun q h z => hxy q h z)
    have hO := OC_fr hO hk hoy
    have hM := hP2
    try dsimp only at hM
    refine va_forget (fun q hq => hS.2.2 q hq) ?_
    have hS := va_S_nil hS
    have hSW := hSW0.keep (fun q h => hS.2.1 q h (Nat.not_le.mpr h))
    refine lv_istore (lv' := [(6, .int (iI (RF u))), (5, .int (iI 0)), (0, .ref b), (1, .ref x0), (2, .ref y0), (3, .ref o), (4, .int (iI i))]) hx hb dL_law_1077 hl (by decide) rfl (fun ls hl => ?_)
    refine lv_aload_n hx hb dL_law_1079 rfl (lv_at hl 4 rfl) ?_
    refine pu_callV (v := 0) (As := []) (rest := []) AP_mv ⟨hx, hb, hml, hown, hts⟩ (c_M_thrown l D cI cZ s.heap.size st Z y0 y1 y2 y3 y6 y7 y8) (cwV 0 hts gL_law_X1_thrown rfl rfl rfl (by decide +kernel) ⟨(Nat.le_of_ble_eq_true rfl), (Nat.le_of_ble_eq_true rfl)⟩) ⟨hSW, hM⟩ (AP_rc ⟨hSW, hM⟩) rfl rfl hl.1 (Nat.le_of_ble_eq_true rfl) dL_law_1080 ⟨by show cells + 1 + 0 ≤ 601024; omega, by show slots + 6 + 0 ≤ 7293034; omega⟩ ?_
    refine lv_iload hx hb dL_law_1083 (lv_at hl 1 rfl) ?_
    refine pv_same (tgt := 1090) hx hb dL_law_1085 (by decide) ?_
    refine lv_iload hx hb dL_law_1090 (lv_at hl 1 rfl) ?_
    refine pv_if_ne (tgt := 1107) hx hb dL_law_1092 (by decide) (by omega) (fun c9 => ?_) (fun c9 => ?_)
    · exact absurd rfl c9
    refine lv_aload_n hx hb dL_law_1095 rfl (lv_at hl 5 rfl) ?_
    refine pv_iconst hx hb dL_law_1096 ?_
    refine pv_lald hx hb hKJ hO hv9 dL_law_1097 ?_
    refine lv_iload hx hb dL_law_1098 (lv_at hl 0 rfl) ?_
    refine lv_i2l (v := (iI (RF u)).toInt64) hx hb dL_law_1100 rfl ?_
    refine W.lcmp hx hb dL_law_1101 ?_
    rw [lg_cmp_s]
    refine pv_if_eq (tgt := 1107) hx hb dL_law_1102 (by decide) (by omega) (fun c9 => ?_) (fun c9 => absurd rfl c9)
    refine lv_goto (tgt := 1234) hx hb dL_law_1107 (by decide) ?_
    exact K _ _ _ _ _ _ _ _ _ _ _ _ hI hC hM hO hS (lv_sub hl [2, 3, 4, 5, 6] rfl)
  · skip
    refine lv_aload_n hx hb dL_law_1054 rfl (lv_at hl 1 rfl) ?_
    refine lv_aload_n hx hb dL_law_1055 rfl (lv_at hl 0 rfl) ?_
    refine lv_iload hx hb dL_law_1056 (lv_at hl 4 rfl) ?_
    refine pv_iconst hx hb dL_law_1058 ?_
    refine pv_iadd hx hb dL_law_1059 ?_
    refine pv_sld (v := u) hx hb hX hbl hbA hS (by omega) (by omega) hu dL_law_1060 ?_
    refine lv_aload_n hx hb dL_law_1061 rfl (lv_at hl 3 rfl) ?_
    refine wr_call (As := [.ref x0, .int (iI u), .ref o]) (rest := []) WP_mv ⟨hx, hb, hml, hown, hts⟩ (v_at l D cI cZ cJ s.heap.size st Z x0 x1 x2 x5 x6 x7 o hfl u hur hlv) (vx_cwSW 3 hts gL_law_L_at rfl rfl rfl (by decide +kernel) ⟨(Nat.le_of_ble_eq_true rfl), (Nat.le_of_ble_eq_true rfl)⟩) ⟨⟨hSW, hC⟩, hKJ, ⟨lf, hO⟩, hox, hnc1, hnc2⟩ rfl rfl hl.1 (Nat.le_of_ble_eq_true rfl) dL_law_1062 ⟨by show cells + 1 ≤ 601024; omega, by show slots + 6 ≤ 7293034; omega⟩ hS (fun q h => by rcases h with h | h; exact CW_b hC q h; rw [h]; exact hob) (fun H locs hP2 hz hk hS => ?_)
    obtain ⟨hC, lf, hO⟩ := hP2
    have hM := MA_fr hM hk (fun q h z => by rcases z with z | z; exact hxy q z h; exact hoy (by rw [← z]; exact h))
    refine va_forget (fun q hq => hS.2.2 q hq) ?_
    have hS := va_S_nil hS
    have hSW := hSW0.keep (fun q h => hS.2.1 q h (Nat.not_le.mpr h))
    refine W.widen (k := cells + 1) (n := slots + 6) (Nat.le_refl _) (Nat.le_refl _) ?_
    refine lv_istore (lv' := [(5, .int (iI 1)), (0, .ref b), (1, .ref x0), (2, .ref y0), (3, .ref o), (4, .int (iI i))]) hx hb dL_law_1065 hl (by decide) rfl (fun ls hl => ?_)
    refine lv_aload_n hx hb dL_law_1067 rfl (lv_at hl 3 rfl) ?_
    refine lv_aload_n hx hb dL_law_1068 rfl (lv_at hl 1 rfl) ?_
    refine lv_iload hx hb dL_law_1069 (lv_at hl 5 rfl) ?_
    refine pv_iconst hx hb dL_law_1071 ?_
    refine pv_iadd hx hb dL_law_1072 ?_
    refine pv_sld (v := u) hx hb hX hbl hbA hS (by omega) (by omega) hu dL_law_1073 ?_
    refine mu_callV (As := [.int (iI u)]) (rest := []) AP_mv ⟨hx, hb, hml, hown, hts⟩ (d_M_at l D cI cZ s.heap.size st Z y0 y1 y2 y3 y6 y7 y8 u hur hlv) (cwV 1 hts gL_law_X1_at rfl rfl rfl (by decide +kernel) ⟨(Nat.le_of_ble_eq_true rfl), (Nat.le_of_ble_eq_true rfl)⟩) ⟨hSW, hM⟩ (AP_rc ⟨hSW, hM⟩) rfl rfl hl.1 (Nat.le_of_ble_eq_true rfl) dL_law_1074 ⟨by show cells + 1 + 0 ≤ 601024; omega, by show slots + 6 + 0 ≤ 7293034; omega⟩ hS (MA_b hM) (fun H locs hP2 hz hk hS => ?_)
    have hC := CW_fr hC hk (fun q h z => hxy q h z)
    have hO := OC_fr hO hk hoy
    have hM := hP2
    try dsimp only at hM
    refine va_forget (fun q hq => hS.2.2 q hq) ?_
    have hS := va_S_nil hS
    have hSW := hSW0.keep (fun q h => hS.2.1 q h (Nat.not_le.mpr h))
    refine lv_istore (lv' := [(6, .int (iI (0))), (5, .int (iI 1)), (0, .ref b), (1, .ref x0), (2, .ref y0), (3, .ref o), (4, .int (iI i))]) hx hb dL_law_1077 hl (by decide) rfl (fun ls hl => ?_)
    refine lv_aload_n hx hb dL_law_1079 rfl (lv_at hl 4 rfl) ?_
    refine pu_callV (v := 1) (As := []) (rest := []) AP_mv ⟨hx, hb, hml, hown, hts⟩ (c_M_thrown l D cI cZ s.heap.size st Z y0 y1 y2 y3 y6 y7 y8) (cwV 0 hts gL_law_X1_thrown rfl rfl rfl (by decide +kernel) ⟨(Nat.le_of_ble_eq_true rfl), (Nat.le_of_ble_eq_true rfl)⟩) ⟨hSW, hM⟩ (AP_rc ⟨hSW, hM⟩) rfl rfl hl.1 (Nat.le_of_ble_eq_true rfl) dL_law_1080 ⟨by show cells + 1 + 0 ≤ 601024; omega, by show slots + 6 + 0 ≤ 7293034; omega⟩ ?_
    refine lv_iload hx hb dL_law_1083 (lv_at hl 1 rfl) ?_
    refine pv_same (tgt := 1090) hx hb dL_law_1085 (by decide) ?_
    refine lv_iload hx hb dL_law_1090 (lv_at hl 1 rfl) ?_
    refine pv_if_ne (tgt := 1107) hx hb dL_law_1092 (by decide) (by omega) (fun c9 => ?_) (fun c9 => ?_)
    rotate_left
    · exact absurd c9 (by omega)
    refine lv_goto (tgt := 1234) hx hb dL_law_1107 (by decide) ?_
    exact K _ _ _ _ _ _ _ _ _ _ _ _ hI hC hM hO hS (lv_sub hl [2, 3, 4, 5, 6] rfl)
set_option maxHeartbeats 4000000 in
set_option maxRecDepth 100000 in
theorem arm_21 {p : Program} {e : Env} {s : State} {m : MethodId} {below : List Frame} {meth : Method} {c : Code} (l : Launch) (hfl : l.stackTraces = false) {b L : Nat} {xs : Nat → Int32} (hL : L ≤ 1536) (C0 : lw_At p s m meth c b L xs)
    {D : va_G} {cI cZ cJ : ClassId} {st : Nat} {Z : Nat → Nat} (hSW0 : SW D cI cZ s.heap.size st Z s s.heap) (hKJ : va_K D vwCl [(cJ, .long)] s) (hnc1 : va_Nc "java/lang/IllegalStateException" "java/lang/IndexOutOfBoundsException" s) (hnc2 : va_Nc "java/lang/IllegalArgumentException" "java/lang/IndexOutOfBoundsException" s)
    {x0 x1 x2 x5 x6 x7 y0 y1 y2 y3 y6 y7 y8 o : Nat} (hxy : ∀ q, mC x0 x1 x2 x5 x6 x7 q → ¬ mM y0 y1 y2 y3 y6 y7 y8 q) (hox : ¬ mC x0 x1 x2 x5 x6 x7 o) (hoy : ¬ mM y0 y1 y2 y3 y6 y7 y8 o) (hob : s.heap.size ≤ o)
    {n came MV th : Int} {F G SP RF RC : Int → Int} (hI : INV n came F G RF) {H : Heap} (hC : CW D cI s.heap.size x0 x1 x2 x5 x6 x7 n came MV F G SP RF RC H) (hM : MA D cI cZ s.heap.size y0 y1 y2 y3 y6 y7 y8 n came MV th F G SP RF RC H) {lf : Nat → Int64} (hO : OC D cJ o lf H) (hS : va_S (fun q : Nat => s.heap.size ≤ q) s.heap H []) {i : Int} (hi : 0 ≤ i ∧ i + 2 < L) {ls : Array Slot} (hl : lv_has ls 7 [(0, .ref b), (1, .ref x0), (2, .ref y0), (3, .ref o), (4, .int (iI i))]) {cells slots : Nat} (hc : cells + 1 ≤ 601024) (hs9 : slots + 6 ≤ 7293034)
    (K : ∀ (n came MV th : Int) (F G SP RF RC : Int → Int) (H : Heap) (lf : Nat → Int64) (ls : Array Slot), INV n came F G RF → CW D cI s.heap.size x0 x1 x2 x5 x6 x7 n came MV F G SP RF RC H → MA D cI cZ s.heap.size y0 y1 y2 y3 y6 y7 y8 n came MV th F G SP RF RC H → OC D cJ o lf H → va_S (fun q : Nat => s.heap.size ≤ q) s.heap H [] → lv_has ls 7 [(0, .ref b), (1, .ref x0), (2, .ref y0), (3, .ref o), (4, .int (iI i))] → W p l e room_1 s m #[Value.ref b] below meth c H [] (cells + 1) (slots + 6) (lw_Z below #[Value.ref b] s) (F0 m 1234 ls [])) : W p l e room_1 s m #[Value.ref b] below meth c H [] (cells) (slots) (lw_Z below #[Value.ref b] s) (F0 m 1110 ls []) := by
  obtain ⟨hx, hb, hr, hml, hown, hts0, hX, hbl, hlocks, hgv⟩ := id C0
  have hts : ∀ w ∈ wsL_law, w.before #[Value.ref b] s = true := fun w h => hts0 w (wsL_law_in w h)
  have hbA : ¬ (fun q : Nat => s.heap.size ≤ q) b := Nat.not_le.mpr hbl
  have hSW := hSW0.keep (fun q h => hS.2.1 q h (Nat.not_le.mpr h))
  obtain ⟨hn, hcm, hF, hfc, hFi, hG, hs, hRI0⟩ := id hI
  have hRF := INV_RF hI
  obtain ⟨u, hur, hu⟩ := iI_of (xs (i + 1).toNat)
  by_cases hlv : 0 ≤ u ∧ u < 4
  · skip
    refine lv_aload_n hx hb dL_law_1110 rfl (lv_at hl 1 rfl) ?_
    refine lv_aload_n hx hb dL_law_1111 rfl (lv_at hl 0 rfl) ?_
    refine lv_iload hx hb dL_law_1112 (lv_at hl 4 rfl) ?_
    refine pv_iconst hx hb dL_law_1114 ?_
    refine pv_iadd hx hb dL_law_1115 ?_
    refine pv_sld (v := u) hx hb hX hbl hbA hS (by omega) (by omega) hu dL_law_1116 ?_
    refine lv_aload_n hx hb dL_law_1117 rfl (lv_at hl 3 rfl) ?_
    refine wr_call (As := [.ref x0, .int (iI u), .ref o]) (rest := []) WP_mv ⟨hx, hb, hml, hown, hts⟩ (w_read l D cI cZ cJ s.heap.size st Z x0 x1 x2 x5 x6 x7 o u hlv) (vx_cwSW 3 hts gL_law_L_read rfl rfl rfl (by decide +kernel) ⟨(Nat.le_of_ble_eq_true rfl), (Nat.le_of_ble_eq_true rfl)⟩) ⟨⟨hSW, hC⟩, hKJ, ⟨lf, hO⟩, hox, hnc1, hnc2⟩ rfl rfl hl.1 (Nat.le_of_ble_eq_true rfl) dL_law_1118 ⟨by show cells + 0 ≤ 601024; omega, by show slots + 0 ≤ 7293034; omega⟩ hS (fun q h => by rcases h with h | h; exact CW_b hC q h; rw [h]; exact hob) (fun H locs hP2 hz hk hS => ?_)
    obtain ⟨hC, lf, hv9, hO⟩ := hP2
    have hM := MA_fr hM hk (fun q h z => by rcases z with z | z; exact hxy q z h; exact hoy (by rw [← z]; exact h))
    refine va_forget (fun q hq => hS.2.2 q hq) ?_
    have hS := va_S_nil hS
    have hSW := hSW0.keep (fun q h => hS.2.1 q h (Nat.not_le.mpr h))
    refine W.widen (k := cells + 1) (n := slots + 6) (by omega) (by omega) ?_
    refine lv_istore (lv' := [(5, .int (iI 0)), (0, .ref b), (1, .ref x0), (2, .ref y0), (3, .ref o), (4, .int (iI i))]) hx hb dL_law_1121 hl (by decide) rfl (fun ls hl => ?_)
    refine lv_aload_n hx hb dL_law_1123 rfl (lv_at hl 3 rfl) ?_
    refine lv_aload_n hx hb dL_law_1124 rfl (lv_at hl 1 rfl) ?_
    refine lv_iload hx hb dL_law_1125 (lv_at hl 5 rfl) ?_
    refine pv_iconst hx hb dL_law_1127 ?_
    refine pv_iadd hx hb dL_law_1128 ?_
    refine pv_sld (v := u) hx hb hX hbl hbA hS (by omega) (by omega) hu dL_law_1129 ?_
    refine mu_callV (As := [.int (iI u)]) (rest := []) AP_mv ⟨hx, hb, hml, hown, hts⟩ (c_M_read l D cI cZ s.heap.size st Z y0 y1 y2 y3 y6 y7 y8 u hlv) (cwV 1 hts gL_law_X1_read rfl rfl rfl (by decide +kernel) ⟨(Nat.le_of_ble_eq_true rfl), (Nat.le_of_ble_eq_true rfl)⟩) ⟨hSW, hM⟩ (AP_rc ⟨hSW, hM⟩) rfl rfl hl.1 (Nat.le_of_ble_eq_true rfl) dL_law_1130 ⟨by show cells + 1 + 0 ≤ 601024; omega, by show slots + 6 + 0 ≤ 7293034; omega⟩ hS (MA_b hM) (fun H locs hP2 hz hk hS => ?_)
    have hC := CW_fr hC hk (fun q h z => hxy q h z)
    have hO := OC_fr hO hk hoy
    have hM := hP2
    try dsimp only at hM
    refine va_forget (fun q hq => hS.2.2 q hq) ?_
    have hS := va_S_nil hS
    have hSW := hSW0.keep (fun q h => hS.2.1 q h (Nat.not_le.mpr h))
    refine lv_istore (lv' := [(6, .int (iI (RC u))), (5, .int (iI 0)), (0, .ref b), (1, .ref x0), (2, .ref y0), (3, .ref o), (4, .int (iI i))]) hx hb dL_law_1133 hl (by decide) rfl (fun ls hl => ?_)
    refine lv_aload_n hx hb dL_law_1135 rfl (lv_at hl 4 rfl) ?_
    refine pu_callV (v := 0) (As := []) (rest := []) AP_mv ⟨hx, hb, hml, hown, hts⟩ (c_M_thrown l D cI cZ s.heap.size st Z y0 y1 y2 y3 y6 y7 y8) (cwV 0 hts gL_law_X1_thrown rfl rfl rfl (by decide +kernel) ⟨(Nat.le_of_ble_eq_true rfl), (Nat.le_of_ble_eq_true rfl)⟩) ⟨hSW, hM⟩ (AP_rc ⟨hSW, hM⟩) rfl rfl hl.1 (Nat.le_of_ble_eq_true rfl) dL_law_1136 ⟨by show cells + 1 + 0 ≤ 601024; omega, by show slots + 6 + 0 ≤ 7293034; omega⟩ ?_
    refine lv_iload hx hb dL_law_1139 (lv_at hl 1 rfl) ?_
    refine pv_same (tgt := 1146) hx hb dL_law_1141 (by decide) ?_
    refine lv_iload hx hb dL_law_1146 (lv_at hl 1 rfl) ?_
    refine pv_if_ne (tgt := 1163) hx hb dL_law_1148 (by decide) (by omega) (fun c9 => ?_) (fun c9 => ?_)
    · exact absurd rfl c9
    refine lv_aload_n hx hb dL_law_1151 rfl (lv_at hl 5 rfl) ?_
    refine pv_iconst hx hb dL_law_1152 ?_
    refine pv_lald hx hb hKJ hO hv9 dL_law_1153 ?_
    refine lv_iload hx hb dL_law_1154 (lv_at hl 0 rfl) ?_
    refine lv_i2l (v := (iI (RC u)).toInt64) hx hb dL_law_1156 rfl ?_
    refine W.lcmp hx hb dL_law_1157 ?_
    rw [lg_cmp_s]
    refine pv_if_eq (tgt := 1163) hx hb dL_law_1158 (by decide) (by omega) (fun c9 => ?_) (fun c9 => absurd rfl c9)
    refine lv_goto (tgt := 1234) hx hb dL_law_1163 (by decide) ?_
    exact K _ _ _ _ _ _ _ _ _ _ _ _ hI hC hM hO hS (lv_sub hl [2, 3, 4, 5, 6] rfl)
  · skip
    refine lv_aload_n hx hb dL_law_1110 rfl (lv_at hl 1 rfl) ?_
    refine lv_aload_n hx hb dL_law_1111 rfl (lv_at hl 0 rfl) ?_
    refine lv_iload hx hb dL_law_1112 (lv_at hl 4 rfl) ?_
    refine pv_iconst hx hb dL_law_1114 ?_
    refine pv_iadd hx hb dL_law_1115 ?_
    refine pv_sld (v := u) hx hb hX hbl hbA hS (by omega) (by omega) hu dL_law_1116 ?_
    refine lv_aload_n hx hb dL_law_1117 rfl (lv_at hl 3 rfl) ?_
    refine wr_call (As := [.ref x0, .int (iI u), .ref o]) (rest := []) WP_mv ⟨hx, hb, hml, hown, hts⟩ (v_read l D cI cZ cJ s.heap.size st Z x0 x1 x2 x5 x6 x7 o hfl u hur hlv) (vx_cwSW 3 hts gL_law_L_read rfl rfl rfl (by decide +kernel) ⟨(Nat.le_of_ble_eq_true rfl), (Nat.le_of_ble_eq_true rfl)⟩) ⟨⟨hSW, hC⟩, hKJ, ⟨lf, hO⟩, hox, hnc1, hnc2⟩ rfl rfl hl.1 (Nat.le_of_ble_eq_true rfl) dL_law_1118 ⟨by show cells + 1 ≤ 601024; omega, by show slots + 6 ≤ 7293034; omega⟩ hS (fun q h => by rcases h with h | h; exact CW_b hC q h; rw [h]; exact hob) (fun H locs hP2 hz hk hS => ?_)
    obtain ⟨hC, lf, hO⟩ := hP2
    have hM := MA_fr hM hk (fun q h z => by rcases z with z | z; exact hxy q z h; exact hoy (by rw [← z]; exact h))
    refine va_forget (fun q hq => hS.2.2 q hq) ?_
    have hS := va_S_nil hS
    have hSW := hSW0.keep (fun q h => hS.2.1 q h (Nat.not_le.mpr h))
    refine W.widen (k := cells + 1) (n := slots + 6) (Nat.le_refl _) (Nat.le_refl _) ?_
    refine lv_istore (lv' := [(5, .int (iI 1)), (0, .ref b), (1, .ref x0), (2, .ref y0), (3, .ref o), (4, .int (iI i))]) hx hb dL_law_1121 hl (by decide) rfl (fun ls hl => ?_)
    refine lv_aload_n hx hb dL_law_1123 rfl (lv_at hl 3 rfl) ?_
    refine lv_aload_n hx hb dL_law_1124 rfl (lv_at hl 1 rfl) ?_
    refine lv_iload hx hb dL_law_1125 (lv_at hl 5 rfl) ?_
    refine pv_iconst hx hb dL_law_1127 ?_
    refine pv_iadd hx hb dL_law_1128 ?_
    refine pv_sld (v := u) hx hb hX hbl hbA hS (by omega) (by omega) hu dL_law_1129 ?_
    refine mu_callV (As := [.int (iI u)]) (rest := []) AP_mv ⟨hx, hb, hml, hown, hts⟩ (d_M_read l D cI cZ s.heap.size st Z y0 y1 y2 y3 y6 y7 y8 u hur hlv) (cwV 1 hts gL_law_X1_read rfl rfl rfl (by decide +kernel) ⟨(Nat.le_of_ble_eq_true rfl), (Nat.le_of_ble_eq_true rfl)⟩) ⟨hSW, hM⟩ (AP_rc ⟨hSW, hM⟩) rfl rfl hl.1 (Nat.le_of_ble_eq_true rfl) dL_law_1130 ⟨by show cells + 1 + 0 ≤ 601024; omega, by show slots + 6 + 0 ≤ 7293034; omega⟩ hS (MA_b hM) (fun H locs hP2 hz hk hS => ?_)
    have hC := CW_fr hC hk (fun q h z => hxy q h z)
    have hO := OC_fr hO hk hoy
    have hM := hP2
    try dsimp only at hM
    refine va_forget (fun q hq => hS.2.2 q hq) ?_
    have hS := va_S_nil hS
    have hSW := hSW0.keep (fun q h => hS.2.1 q h (Nat.not_le.mpr h))
    refine lv_istore (lv' := [(6, .int (iI (0))), (5, .int (iI 1)), (0, .ref b), (1, .ref x0), (2, .ref y0), (3, .ref o), (4, .int (iI i))]) hx hb dL_law_1133 hl (by decide) rfl (fun ls hl => ?_)
    refine lv_aload_n hx hb dL_law_1135 rfl (lv_at hl 4 rfl) ?_
    refine pu_callV (v := 1) (As := []) (rest := []) AP_mv ⟨hx, hb, hml, hown, hts⟩ (c_M_thrown l D cI cZ s.heap.size st Z y0 y1 y2 y3 y6 y7 y8) (cwV 0 hts gL_law_X1_thrown rfl rfl rfl (by decide +kernel) ⟨(Nat.le_of_ble_eq_true rfl), (Nat.le_of_ble_eq_true rfl)⟩) ⟨hSW, hM⟩ (AP_rc ⟨hSW, hM⟩) rfl rfl hl.1 (Nat.le_of_ble_eq_true rfl) dL_law_1136 ⟨by show cells + 1 + 0 ≤ 601024; omega, by show slots + 6 + 0 ≤ 7293034; omega⟩ ?_
    refine lv_iload hx hb dL_law_1139 (lv_at hl 1 rfl) ?_
    refine pv_same (tgt := 1146) hx hb dL_law_1141 (by decide) ?_
    refine lv_iload hx hb dL_law_1146 (lv_at hl 1 rfl) ?_
    refine pv_if_ne (tgt := 1163) hx hb dL_law_1148 (by decide) (by omega) (fun c9 => ?_) (fun c9 => ?_)
    rotate_left
    · exact absurd c9 (by omega)
    refine lv_goto (tgt := 1234) hx hb dL_law_1163 (by decide) ?_
    exact K _ _ _ _ _ _ _ _ _ _ _ _ hI hC hM hO hS (lv_sub hl [2, 3, 4, 5, 6] rfl)
set_option maxHeartbeats 4000000 in
set_option maxRecDepth 100000 in
theorem arm_22 {p : Program} {e : Env} {s : State} {m : MethodId} {below : List Frame} {meth : Method} {c : Code} (l : Launch) (hfl : l.stackTraces = false) {b L : Nat} {xs : Nat → Int32} (hL : L ≤ 1536) (C0 : lw_At p s m meth c b L xs)
    {D : va_G} {cI cZ cJ : ClassId} {st : Nat} {Z : Nat → Nat} (hSW0 : SW D cI cZ s.heap.size st Z s s.heap) (hKJ : va_K D vwCl [(cJ, .long)] s) (hnc1 : va_Nc "java/lang/IllegalStateException" "java/lang/IndexOutOfBoundsException" s) (hnc2 : va_Nc "java/lang/IllegalArgumentException" "java/lang/IndexOutOfBoundsException" s)
    {x0 x1 x2 x5 x6 x7 y0 y1 y2 y3 y6 y7 y8 o : Nat} (hxy : ∀ q, mC x0 x1 x2 x5 x6 x7 q → ¬ mM y0 y1 y2 y3 y6 y7 y8 q) (hox : ¬ mC x0 x1 x2 x5 x6 x7 o) (hoy : ¬ mM y0 y1 y2 y3 y6 y7 y8 o) (hob : s.heap.size ≤ o)
    {n came MV th : Int} {F G SP RF RC : Int → Int} (hI : INV n came F G RF) {H : Heap} (hC : CW D cI s.heap.size x0 x1 x2 x5 x6 x7 n came MV F G SP RF RC H) (hM : MA D cI cZ s.heap.size y0 y1 y2 y3 y6 y7 y8 n came MV th F G SP RF RC H) {lf : Nat → Int64} (hO : OC D cJ o lf H) (hS : va_S (fun q : Nat => s.heap.size ≤ q) s.heap H []) {i : Int} (hi : 0 ≤ i ∧ i + 2 < L) {ls : Array Slot} (hl : lv_has ls 7 [(0, .ref b), (1, .ref x0), (2, .ref y0), (3, .ref o), (4, .int (iI i))]) {cells slots : Nat} (hc : cells + 1 ≤ 601024) (hs9 : slots + 6 ≤ 7293034)
    (K : ∀ (n came MV th : Int) (F G SP RF RC : Int → Int) (H : Heap) (lf : Nat → Int64) (ls : Array Slot), INV n came F G RF → CW D cI s.heap.size x0 x1 x2 x5 x6 x7 n came MV F G SP RF RC H → MA D cI cZ s.heap.size y0 y1 y2 y3 y6 y7 y8 n came MV th F G SP RF RC H → OC D cJ o lf H → va_S (fun q : Nat => s.heap.size ≤ q) s.heap H [] → lv_has ls 7 [(0, .ref b), (1, .ref x0), (2, .ref y0), (3, .ref o), (4, .int (iI i))] → W p l e room_1 s m #[Value.ref b] below meth c H [] (cells + 1) (slots + 6) (lw_Z below #[Value.ref b] s) (F0 m 1234 ls [])) : W p l e room_1 s m #[Value.ref b] below meth c H [] (cells) (slots) (lw_Z below #[Value.ref b] s) (F0 m 1166 ls []) := by
  obtain ⟨hx, hb, hr, hml, hown, hts0, hX, hbl, hlocks, hgv⟩ := id C0
  have hts : ∀ w ∈ wsL_law, w.before #[Value.ref b] s = true := fun w h => hts0 w (wsL_law_in w h)
  have hbA : ¬ (fun q : Nat => s.heap.size ≤ q) b := Nat.not_le.mpr hbl
  have hSW := hSW0.keep (fun q h => hS.2.1 q h (Nat.not_le.mpr h))
  obtain ⟨hn, hcm, hF, hfc, hFi, hG, hs, hRI0⟩ := id hI
  have hRF := INV_RF hI
  obtain ⟨u, hur, hu⟩ := iI_of (xs (i + 1).toNat)
  obtain ⟨v, hvr, hv⟩ := iI_of (xs (i + 2).toNat)
  by_cases hu9 : 0 ≤ u ∧ u < 4
  · skip
    by_cases hv8 : 0 ≤ v ∧ v < 4
    · skip
      refine lv_aload_n hx hb dL_law_1166 rfl (lv_at hl 1 rfl) ?_
      refine lv_aload_n hx hb dL_law_1167 rfl (lv_at hl 0 rfl) ?_
      refine lv_iload hx hb dL_law_1168 (lv_at hl 4 rfl) ?_
      refine pv_iconst hx hb dL_law_1170 ?_
      refine pv_iadd hx hb dL_law_1171 ?_
      refine pv_sld (v := u) hx hb hX hbl hbA hS (by omega) (by omega) hu dL_law_1172 ?_
      refine lv_aload_n hx hb dL_law_1173 rfl (lv_at hl 0 rfl) ?_
      refine lv_iload hx hb dL_law_1174 (lv_at hl 4 rfl) ?_
      refine pv_iconst hx hb dL_law_1176 ?_
      refine pv_iadd hx hb dL_law_1177 ?_
      refine pv_sld (v := v) hx hb hX hbl hbA hS (by omega) (by omega) hv dL_law_1178 ?_
      refine lv_aload_n hx hb dL_law_1179 rfl (lv_at hl 3 rfl) ?_
      refine wr_call (As := [.ref x0, .int (iI u), .int (iI v), .ref o]) (rest := []) WP_mv ⟨hx, hb, hml, hown, hts⟩ (w_daysTo l D cI cZ cJ s.heap.size st Z x0 x1 x2 x5 x6 x7 o hn hF hRF u v hu9 hv8 (pl F n (RF u)) (pl_PL hn.1 (RF u)) (pl F n (RF v)) (pl_PL hn.1 (RF v)) (if pl F n (RF u) = -1 ∨ pl F n (RF v) < pl F n (RF u) then -1 else pl F n (RF v) - pl F n (RF u)) rfl) (vx_cwSW 4 hts gL_law_L_daysTo rfl rfl rfl (by decide +kernel) ⟨(Nat.le_of_ble_eq_true rfl), (Nat.le_of_ble_eq_true rfl)⟩) ⟨⟨hSW, hC⟩, hKJ, ⟨lf, hO⟩, hox, hnc1, hnc2⟩ rfl rfl hl.1 (Nat.le_of_ble_eq_true rfl) dL_law_1180 ⟨by show cells + 0 ≤ 601024; omega, by show slots + 0 ≤ 7293034; omega⟩ hS (fun q h => by rcases h with h | h; exact CW_b hC q h; rw [h]; exact hob) (fun H locs hP2 hz hk hS => ?_)
      obtain ⟨hC, lf, hv9, hO⟩ := hP2
      have hM := MA_fr hM hk (fun q h z => by rcases z with z | z; exact hxy q z h; exact hoy (by rw [← z]; exact h))
      refine va_forget (fun q hq => hS.2.2 q hq) ?_
      have hS := va_S_nil hS
      have hSW := hSW0.keep (fun q h => hS.2.1 q h (Nat.not_le.mpr h))
      refine W.widen (k := cells + 1) (n := slots + 6) (by omega) (by omega) ?_
      refine lv_istore (lv' := [(5, .int (iI 0)), (0, .ref b), (1, .ref x0), (2, .ref y0), (3, .ref o), (4, .int (iI i))]) hx hb dL_law_1183 hl (by decide) rfl (fun ls hl => ?_)
      refine lv_aload_n hx hb dL_law_1185 rfl (lv_at hl 3 rfl) ?_
      refine lv_aload_n hx hb dL_law_1186 rfl (lv_at hl 1 rfl) ?_
      refine lv_iload hx hb dL_law_1187 (lv_at hl 5 rfl) ?_
      refine pv_iconst hx hb dL_law_1189 ?_
      refine pv_iadd hx hb dL_law_1190 ?_
      refine pv_sld (v := u) hx hb hX hbl hbA hS (by omega) (by omega) hu dL_law_1191 ?_
      refine lv_aload_n hx hb dL_law_1192 rfl (lv_at hl 1 rfl) ?_
      refine lv_iload hx hb dL_law_1193 (lv_at hl 5 rfl) ?_
      refine pv_iconst hx hb dL_law_1195 ?_
      refine pv_iadd hx hb dL_law_1196 ?_
      refine pv_sld (v := v) hx hb hX hbl hbA hS (by omega) (by omega) hv dL_law_1197 ?_
      refine mu_callV (As := [.int (iI u), .int (iI v)]) (rest := []) AP_mv ⟨hx, hb, hml, hown, hts⟩ (c_M_daysTo l D cI cZ s.heap.size st Z y0 y1 y2 y3 y6 y7 y8 hn hF hRF u v hu9 hv8 (pl F n (RF u)) (pl_PL hn.1 (RF u)) (INV_pl hI u hu9.1 hu9.2) (pl F n (RF v)) (pl_PL hn.1 (RF v)) (INV_pl hI v hv8.1 hv8.2) (if pl F n (RF u) = -1 ∨ pl F n (RF v) < pl F n (RF u) then -1 else pl F n (RF v) - pl F n (RF u)) rfl) (cwV 2 hts gL_law_X1_daysTo rfl rfl rfl (by decide +kernel) ⟨(Nat.le_of_ble_eq_true rfl), (Nat.le_of_ble_eq_true rfl)⟩) ⟨hSW, hM⟩ (AP_rc ⟨hSW, hM⟩) rfl rfl hl.1 (Nat.le_of_ble_eq_true rfl) dL_law_1198 ⟨by show cells + 1 + 0 ≤ 601024; omega, by show slots + 6 + 0 ≤ 7293034; omega⟩ hS (MA_b hM) (fun H locs hP2 hz hk hS => ?_)
      have hC := CW_fr hC hk (fun q h z => hxy q h z)
      have hO := OC_fr hO hk hoy
      have hM := hP2
      try dsimp only at hM
      refine va_forget (fun q hq => hS.2.2 q hq) ?_
      have hS := va_S_nil hS
      have hSW := hSW0.keep (fun q h => hS.2.1 q h (Nat.not_le.mpr h))
      refine lv_istore (lv' := [(6, .int (iI (if pl F n (RF u) = -1 ∨ pl F n (RF v) < pl F n (RF u) then -1 else pl F n (RF v) - pl F n (RF u)))), (5, .int (iI 0)), (0, .ref b), (1, .ref x0), (2, .ref y0), (3, .ref o), (4, .int (iI i))]) hx hb dL_law_1201 hl (by decide) rfl (fun ls hl => ?_)
      refine lv_aload_n hx hb dL_law_1203 rfl (lv_at hl 4 rfl) ?_
      refine pu_callV (v := 0) (As := []) (rest := []) AP_mv ⟨hx, hb, hml, hown, hts⟩ (c_M_thrown l D cI cZ s.heap.size st Z y0 y1 y2 y3 y6 y7 y8) (cwV 0 hts gL_law_X1_thrown rfl rfl rfl (by decide +kernel) ⟨(Nat.le_of_ble_eq_true rfl), (Nat.le_of_ble_eq_true rfl)⟩) ⟨hSW, hM⟩ (AP_rc ⟨hSW, hM⟩) rfl rfl hl.1 (Nat.le_of_ble_eq_true rfl) dL_law_1204 ⟨by show cells + 1 + 0 ≤ 601024; omega, by show slots + 6 + 0 ≤ 7293034; omega⟩ ?_
      refine lv_iload hx hb dL_law_1207 (lv_at hl 1 rfl) ?_
      refine pv_same (tgt := 1214) hx hb dL_law_1209 (by decide) ?_
      refine lv_iload hx hb dL_law_1214 (lv_at hl 1 rfl) ?_
      refine pv_if_ne (tgt := 1231) hx hb dL_law_1216 (by decide) (by omega) (fun c9 => ?_) (fun c9 => ?_)
      · exact absurd rfl c9
      refine lv_aload_n hx hb dL_law_1219 rfl (lv_at hl 5 rfl) ?_
      refine pv_iconst hx hb dL_law_1220 ?_
      refine pv_lald hx hb hKJ hO hv9 dL_law_1221 ?_
      refine lv_iload hx hb dL_law_1222 (lv_at hl 0 rfl) ?_
      refine lv_i2l (v := (iI (if pl F n (RF u) = -1 ∨ pl F n (RF v) < pl F n (RF u) then -1 else pl F n (RF v) - pl F n (RF u))).toInt64) hx hb dL_law_1224 rfl ?_
      refine W.lcmp hx hb dL_law_1225 ?_
      rw [lg_cmp_s]
      refine pv_if_eq (tgt := 1231) hx hb dL_law_1226 (by decide) (by omega) (fun c9 => ?_) (fun c9 => absurd rfl c9)
      refine lv_goto (tgt := 1234) hx hb dL_law_1231 (by decide) ?_
      exact K _ _ _ _ _ _ _ _ _ _ _ _ hI hC hM hO hS (lv_sub hl [2, 3, 4, 5, 6] rfl)
    · skip
      refine lv_aload_n hx hb dL_law_1166 rfl (lv_at hl 1 rfl) ?_
      refine lv_aload_n hx hb dL_law_1167 rfl (lv_at hl 0 rfl) ?_
      refine lv_iload hx hb dL_law_1168 (lv_at hl 4 rfl) ?_
      refine pv_iconst hx hb dL_law_1170 ?_
      refine pv_iadd hx hb dL_law_1171 ?_
      refine pv_sld (v := u) hx hb hX hbl hbA hS (by omega) (by omega) hu dL_law_1172 ?_
      refine lv_aload_n hx hb dL_law_1173 rfl (lv_at hl 0 rfl) ?_
      refine lv_iload hx hb dL_law_1174 (lv_at hl 4 rfl) ?_
      refine pv_iconst hx hb dL_law_1176 ?_
      refine pv_iadd hx hb dL_law_1177 ?_
      refine pv_sld (v := v) hx hb hX hbl hbA hS (by omega) (by omega) hv dL_law_1178 ?_
      refine lv_aload_n hx hb dL_law_1179 rfl (lv_at hl 3 rfl) ?_
      refine wr_call (As := [.ref x0, .int (iI u), .int (iI v), .ref o]) (rest := []) WP_mv ⟨hx, hb, hml, hown, hts⟩ (v_daysTo2 l D cI cZ cJ s.heap.size st Z x0 x1 x2 x5 x6 x7 o hfl u v hu9 hvr hv8) (vx_cwSW 4 hts gL_law_L_daysTo rfl rfl rfl (by decide +kernel) ⟨(Nat.le_of_ble_eq_true rfl), (Nat.le_of_ble_eq_true rfl)⟩) ⟨⟨hSW, hC⟩, hKJ, ⟨lf, hO⟩, hox, hnc1, hnc2⟩ rfl rfl hl.1 (Nat.le_of_ble_eq_true rfl) dL_law_1180 ⟨by show cells + 1 ≤ 601024; omega, by show slots + 6 ≤ 7293034; omega⟩ hS (fun q h => by rcases h with h | h; exact CW_b hC q h; rw [h]; exact hob) (fun H locs hP2 hz hk hS => ?_)
      obtain ⟨hC, lf, hO⟩ := hP2
      have hM := MA_fr hM hk (fun q h z => by rcases z with z | z; exact hxy q z h; exact hoy (by rw [← z]; exact h))
      refine va_forget (fun q hq => hS.2.2 q hq) ?_
      have hS := va_S_nil hS
      have hSW := hSW0.keep (fun q h => hS.2.1 q h (Nat.not_le.mpr h))
      refine W.widen (k := cells + 1) (n := slots + 6) (Nat.le_refl _) (Nat.le_refl _) ?_
      refine lv_istore (lv' := [(5, .int (iI 1)), (0, .ref b), (1, .ref x0), (2, .ref y0), (3, .ref o), (4, .int (iI i))]) hx hb dL_law_1183 hl (by decide) rfl (fun ls hl => ?_)
      refine lv_aload_n hx hb dL_law_1185 rfl (lv_at hl 3 rfl) ?_
      refine lv_aload_n hx hb dL_law_1186 rfl (lv_at hl 1 rfl) ?_
      refine lv_iload hx hb dL_law_1187 (lv_at hl 5 rfl) ?_
      refine pv_iconst hx hb dL_law_1189 ?_
      refine pv_iadd hx hb dL_law_1190 ?_
      refine pv_sld (v := u) hx hb hX hbl hbA hS (by omega) (by omega) hu dL_law_1191 ?_
      refine lv_aload_n hx hb dL_law_1192 rfl (lv_at hl 1 rfl) ?_
      refine lv_iload hx hb dL_law_1193 (lv_at hl 5 rfl) ?_
      refine pv_iconst hx hb dL_law_1195 ?_
      refine pv_iadd hx hb dL_law_1196 ?_
      refine pv_sld (v := v) hx hb hX hbl hbA hS (by omega) (by omega) hv dL_law_1197 ?_
      refine mu_callV (As := [.int (iI u), .int (iI v)]) (rest := []) AP_mv ⟨hx, hb, hml, hown, hts⟩ (d_M_daysTo2 l D cI cZ s.heap.size st Z y0 y1 y2 y3 y6 y7 y8 u v hu9 hvr hv8) (cwV 2 hts gL_law_X1_daysTo rfl rfl rfl (by decide +kernel) ⟨(Nat.le_of_ble_eq_true rfl), (Nat.le_of_ble_eq_true rfl)⟩) ⟨hSW, hM⟩ (AP_rc ⟨hSW, hM⟩) rfl rfl hl.1 (Nat.le_of_ble_eq_true rfl) dL_law_1198 ⟨by show cells + 1 + 0 ≤ 601024; omega, by show slots + 6 + 0 ≤ 7293034; omega⟩ hS (MA_b hM) (fun H locs hP2 hz hk hS => ?_)
      have hC := CW_fr hC hk (fun q h z => hxy q h z)
      have hO := OC_fr hO hk hoy
      have hM := hP2
      try dsimp only at hM
      refine va_forget (fun q hq => hS.2.2 q hq) ?_
      have hS := va_S_nil hS
      have hSW := hSW0.keep (fun q h => hS.2.1 q h (Nat.not_le.mpr h))
      refine lv_istore (lv' := [(6, .int (iI (0))), (5, .int (iI 1)), (0, .ref b), (1, .ref x0), (2, .ref y0), (3, .ref o), (4, .int (iI i))]) hx hb dL_law_1201 hl (by decide) rfl (fun ls hl => ?_)
      refine lv_aload_n hx hb dL_law_1203 rfl (lv_at hl 4 rfl) ?_
      refine pu_callV (v := 1) (As := []) (rest := []) AP_mv ⟨hx, hb, hml, hown, hts⟩ (c_M_thrown l D cI cZ s.heap.size st Z y0 y1 y2 y3 y6 y7 y8) (cwV 0 hts gL_law_X1_thrown rfl rfl rfl (by decide +kernel) ⟨(Nat.le_of_ble_eq_true rfl), (Nat.le_of_ble_eq_true rfl)⟩) ⟨hSW, hM⟩ (AP_rc ⟨hSW, hM⟩) rfl rfl hl.1 (Nat.le_of_ble_eq_true rfl) dL_law_1204 ⟨by show cells + 1 + 0 ≤ 601024; omega, by show slots + 6 + 0 ≤ 7293034; omega⟩ ?_
      refine lv_iload hx hb dL_law_1207 (lv_at hl 1 rfl) ?_
      refine pv_same (tgt := 1214) hx hb dL_law_1209 (by decide) ?_
      refine lv_iload hx hb dL_law_1214 (lv_at hl 1 rfl) ?_
      refine pv_if_ne (tgt := 1231) hx hb dL_law_1216 (by decide) (by omega) (fun c9 => ?_) (fun c9 => ?_)
      rotate_left
      · exact absurd c9 (by omega)
      refine lv_goto (tgt := 1234) hx hb dL_law_1231 (by decide) ?_
      exact K _ _ _ _ _ _ _ _ _ _ _ _ hI hC hM hO hS (lv_sub hl [2, 3, 4, 5, 6] rfl)
  · skip
    refine lv_aload_n hx hb dL_law_1166 rfl (lv_at hl 1 rfl) ?_
    refine lv_aload_n hx hb dL_law_1167 rfl (lv_at hl 0 rfl) ?_
    refine lv_iload hx hb dL_law_1168 (lv_at hl 4 rfl) ?_
    refine pv_iconst hx hb dL_law_1170 ?_
    refine pv_iadd hx hb dL_law_1171 ?_
    refine pv_sld (v := u) hx hb hX hbl hbA hS (by omega) (by omega) hu dL_law_1172 ?_
    refine lv_aload_n hx hb dL_law_1173 rfl (lv_at hl 0 rfl) ?_
    refine lv_iload hx hb dL_law_1174 (lv_at hl 4 rfl) ?_
    refine pv_iconst hx hb dL_law_1176 ?_
    refine pv_iadd hx hb dL_law_1177 ?_
    refine pv_sld (v := v) hx hb hX hbl hbA hS (by omega) (by omega) hv dL_law_1178 ?_
    refine lv_aload_n hx hb dL_law_1179 rfl (lv_at hl 3 rfl) ?_
    refine wr_call (As := [.ref x0, .int (iI u), .int (iI v), .ref o]) (rest := []) WP_mv ⟨hx, hb, hml, hown, hts⟩ (v_daysTo l D cI cZ cJ s.heap.size st Z x0 x1 x2 x5 x6 x7 o hfl u v hur hu9) (vx_cwSW 4 hts gL_law_L_daysTo rfl rfl rfl (by decide +kernel) ⟨(Nat.le_of_ble_eq_true rfl), (Nat.le_of_ble_eq_true rfl)⟩) ⟨⟨hSW, hC⟩, hKJ, ⟨lf, hO⟩, hox, hnc1, hnc2⟩ rfl rfl hl.1 (Nat.le_of_ble_eq_true rfl) dL_law_1180 ⟨by show cells + 1 ≤ 601024; omega, by show slots + 6 ≤ 7293034; omega⟩ hS (fun q h => by rcases h with h | h; exact CW_b hC q h; rw [h]; exact hob) (fun H locs hP2 hz hk hS => ?_)
    obtain ⟨hC, lf, hO⟩ := hP2
    have hM := MA_fr hM hk (fun q h z => by rcases z with z | z; exact hxy q z h; exact hoy (by rw [← z]; exact h))
    refine va_forget (fun q hq => hS.2.2 q hq) ?_
    have hS := va_S_nil hS
    have hSW := hSW0.keep (fun q h => hS.2.1 q h (Nat.not_le.mpr h))
    refine W.widen (k := cells + 1) (n := slots + 6) (Nat.le_refl _) (Nat.le_refl _) ?_
    refine lv_istore (lv' := [(5, .int (iI 1)), (0, .ref b), (1, .ref x0), (2, .ref y0), (3, .ref o), (4, .int (iI i))]) hx hb dL_law_1183 hl (by decide) rfl (fun ls hl => ?_)
    refine lv_aload_n hx hb dL_law_1185 rfl (lv_at hl 3 rfl) ?_
    refine lv_aload_n hx hb dL_law_1186 rfl (lv_at hl 1 rfl) ?_
    refine lv_iload hx hb dL_law_1187 (lv_at hl 5 rfl) ?_
    refine pv_iconst hx hb dL_law_1189 ?_
    refine pv_iadd hx hb dL_law_1190 ?_
    refine pv_sld (v := u) hx hb hX hbl hbA hS (by omega) (by omega) hu dL_law_1191 ?_
    refine lv_aload_n hx hb dL_law_1192 rfl (lv_at hl 1 rfl) ?_
    refine lv_iload hx hb dL_law_1193 (lv_at hl 5 rfl) ?_
    refine pv_iconst hx hb dL_law_1195 ?_
    refine pv_iadd hx hb dL_law_1196 ?_
    refine pv_sld (v := v) hx hb hX hbl hbA hS (by omega) (by omega) hv dL_law_1197 ?_
    refine mu_callV (As := [.int (iI u), .int (iI v)]) (rest := []) AP_mv ⟨hx, hb, hml, hown, hts⟩ (d_M_daysTo l D cI cZ s.heap.size st Z y0 y1 y2 y3 y6 y7 y8 u v hur hu9) (cwV 2 hts gL_law_X1_daysTo rfl rfl rfl (by decide +kernel) ⟨(Nat.le_of_ble_eq_true rfl), (Nat.le_of_ble_eq_true rfl)⟩) ⟨hSW, hM⟩ (AP_rc ⟨hSW, hM⟩) rfl rfl hl.1 (Nat.le_of_ble_eq_true rfl) dL_law_1198 ⟨by show cells + 1 + 0 ≤ 601024; omega, by show slots + 6 + 0 ≤ 7293034; omega⟩ hS (MA_b hM) (fun H locs hP2 hz hk hS => ?_)
    have hC := CW_fr hC hk (fun q h z => hxy q h z)
    have hO := OC_fr hO hk hoy
    have hM := hP2
    try dsimp only at hM
    refine va_forget (fun q hq => hS.2.2 q hq) ?_
    have hS := va_S_nil hS
    have hSW := hSW0.keep (fun q h => hS.2.1 q h (Nat.not_le.mpr h))
    refine lv_istore (lv' := [(6, .int (iI (0))), (5, .int (iI 1)), (0, .ref b), (1, .ref x0), (2, .ref y0), (3, .ref o), (4, .int (iI i))]) hx hb dL_law_1201 hl (by decide) rfl (fun ls hl => ?_)
    refine lv_aload_n hx hb dL_law_1203 rfl (lv_at hl 4 rfl) ?_
    refine pu_callV (v := 1) (As := []) (rest := []) AP_mv ⟨hx, hb, hml, hown, hts⟩ (c_M_thrown l D cI cZ s.heap.size st Z y0 y1 y2 y3 y6 y7 y8) (cwV 0 hts gL_law_X1_thrown rfl rfl rfl (by decide +kernel) ⟨(Nat.le_of_ble_eq_true rfl), (Nat.le_of_ble_eq_true rfl)⟩) ⟨hSW, hM⟩ (AP_rc ⟨hSW, hM⟩) rfl rfl hl.1 (Nat.le_of_ble_eq_true rfl) dL_law_1204 ⟨by show cells + 1 + 0 ≤ 601024; omega, by show slots + 6 + 0 ≤ 7293034; omega⟩ ?_
    refine lv_iload hx hb dL_law_1207 (lv_at hl 1 rfl) ?_
    refine pv_same (tgt := 1214) hx hb dL_law_1209 (by decide) ?_
    refine lv_iload hx hb dL_law_1214 (lv_at hl 1 rfl) ?_
    refine pv_if_ne (tgt := 1231) hx hb dL_law_1216 (by decide) (by omega) (fun c9 => ?_) (fun c9 => ?_)
    rotate_left
    · exact absurd c9 (by omega)
    refine lv_goto (tgt := 1234) hx hb dL_law_1231 (by decide) ?_
    exact K _ _ _ _ _ _ _ _ _ _ _ _ hI hC hM hO hS (lv_sub hl [2, 3, 4, 5, 6] rfl)
