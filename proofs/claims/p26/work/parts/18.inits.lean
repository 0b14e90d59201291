theorem va_D1 {A : Nat → Prop} {a : Nat} {e : va_E} (h : A a) : va_D A [(a, e)] := by
  refine ⟨fun i j p q hi hj _ => ?_, fun k q hq => ?_⟩
  · match i, hi with
    | 0, _ =>
      match j, hj with
      | 0, _ => rfl
      | j + 1, hj => simp at hj
    | i + 1, hi => simp at hi
  · match k, hq with
    | 0, hq => cases hq; exact h
    | k + 1, hq => simp at hq
def in_M (l : Launch) (y : MethodName) (ws : List Cond) (rm : Room) (av : List Value) (P : State → Heap → Prop) (P2 : Heap → Prop) (A : Nat → Prop) (mc ms : Nat) : Prop := Met l y ws rm (va_Pc av (fun U => P U U.heap)) (mu_Q none P2 A) mc ms A
section IN1
variable {p : Program} {l : Launch} {e : Env} {R : Room} {s : State} {m : MethodId} {args : Array Value} {below : List Frame} {meth : Method} {c : Code} {H : Heap} {locs : List Loc} {cells slots : Nat} {Q : State → Prop}
variable {y : MethodName} {bytes cc : ByteArray} {maxL nL n index : Nat} {ret : Option FieldType} {ws ws' : List Cond} {rm : Room} {P : State → Heap → Prop} {Ts : List Cond} {own : String} {b : Addr} {As rest st0 : List Value} {pc : Nat} {ls : Array Slot}
theorem in_callI {P2 : Heap → Prop} {A A0 : Nat → Prop} {H0 : Heap} {mc ms : Nat} (hm : mvb P) (S : CallFix p m c cc nL s args Ts own) (hM : in_M l y ws rm (.ref b :: As) P P2 A mc ms) (cw : CallB R s args own index y bytes maxL none ws rm mc ms n ∧ y.name = "<init>" ∧ (Cond.instanceMethod y).before args s = true) (hP : P s H)
    (hst : st0 = As.reverse ++ .ref b :: rest) (hn : As.length = n) (hsz : ls.size = nL) (hW : (rest.map fun v => v.category).sum ≤ 8) (d : decode cc pc = .ok (.invokespecial index, 3)) (hf : cells + mc ≤ R.cells ∧ slots + ms ≤ R.slots)
    (hS : va_S A0 H0 H locs) (hA : ∀ q, A q → A0 q)
    (kk : ∀ (H1 : Heap) (locs1 : List Loc), P2 H1 → H.size ≤ H1.size → (∀ q : Nat, q < H.size → ¬ A q → H1[q]? = H[q]?) → va_S A0 H0 H1 locs1 → W p l e R s m args below meth c H1 locs1 (cells + mc) (slots + ms) Q (F0 m (pc + 3) ls rest)) : W p l e R s m args below meth c H locs cells slots Q (F0 m pc ls st0) := by
  intro T hT X
  obtain ⟨v9, st₀, t, T', L, h0, X', hL, e1, e2, ⟨hv, hp2, hz, hk⟩, st⟩ := (va_runI S hM cw ⟨blind_of hm _, fun U hU hw => ⟨rfl, by show P U U.heap; rw [hU]; exact hm s U H hw hP⟩⟩ (g := F0 m pc ls st0) rfl hn hsz hst (lv_room hW) d hf) T hT X
  cases hv
  rw [h0] at hz hk
  obtain ⟨t2, a1, b1⟩ := kk T'.heap (locs ++ L) (by rw [e1]; exact hp2) (by rw [e1]; exact hz) (by rw [e1]; exact hk)
    ⟨Nat.le_trans hS.1 (by rw [e1]; exact hz), fun q h1 h2 => by rw [e1, hk q (Nat.lt_of_lt_of_le h1 hS.1) (fun z => h2 (hA q z))]; exact hS.2.1 q h1 h2, fun q hq => by
      rcases List.mem_append.mp hq with h | h
      · exact hS.2.2 q h
      · exact hA _ (hL q h)⟩ T' rfl X'
  exact ⟨t2, st t2 a1, b1⟩
theorem in_of {av : List Value} {mc ms : Nat} {P2 : Heap → Prop} {A : Nat → Prop} (hy : plainName y.cls = true) (hw : ws = Cond.code y cc maxL none :: ws') (ho : y.cls = own) (hlen : (lg_sl av).length ≤ maxL)
    (body : ∀ (p : Program) (e : Env) (s : State) (m : MethodId) (below : List Frame) (meth : Method) (c : Code) (ls : Array Slot), bd_At p s m av.toArray meth c cc maxL none ws own → meth.name = y.name → P s s.heap → lv_has ls maxL (lv_args 0 av) →
      W p l e rm s m av.toArray below meth c s.heap [] 0 0 (MQ below (mu_Q none P2 A) av.toArray s mc ms A) (F0 m 0 ls [])) : in_M l y ws rm av P P2 A mc ms := by
  refine Met.ofW (cc := cc) (maxL := maxL) (ret := none) hy hw ?_
  intro p e s m args below meth c s₁ B hml hv
  obtain ⟨rfl, hP⟩ := hv
  have hown : s.vm.findClass y.cls = some m.cls := findClass_of_methodNamed B.named
  rw [ho] at hown
  rw [lg_entry_eq]
  exact body p e s m below meth c _ ⟨B.exec, B.bytes, hml, B.returns, atoms_spec (ws := ws) B.pre, hown, B.notSynchronized⟩ (name_of_methodNamed B.named B.method).1 hP (lv_entry av hlen)
theorem in_vret {P2 : Heap → Prop} {A : Nat → Prop} (hx : p.tables.exec = Jvm.exec) (hb : c.code = cc) (hr : meth.sig.returnType = none) (hlocks : meth.locks = false) (hS : va_S A s.heap H locs) (d : decode cc pc = .ok (.return_, 1)) (h2 : P2 H) : W p l e R s m args below meth c H locs cells slots (MQ below (mu_Q none P2 A) args s cells slots A) (F0 m pc ls []) :=
  W.vret hx hb hr (fun t ht _ => ⟨rfl, by rw [ht]; exact h2, hS.F ht⟩) hS.2.2 d hlocks
theorem pv_newa {D : va_G} {cl : List vw_C} {wl : va_W} {tys : List (ClassId × FieldType)} {A : Nat → Prop} {H0 : Heap} (hx : p.tables.exec = Jvm.exec) (hb : c.code = cc) {atype : ArrayType} (harr : (Cond.arrayClass (newarray.typeOf atype)).before args s = true) {ty : FieldType} (hty : newarray.typeOf atype = ty) (hK : va_K D cl tys s) (t0 : Nat) {cI : ClassId} (ht : tys[t0]? = some (cI, ty)) (hRA : ∀ (U : State) (k : ClassId), va_RA U k ty → U.vm.findClass ("[" ++ ty.toString) = some k)
    (hP : va_P D cl wl H) (hD : va_D A wl) (hS : va_S A H0 H locs) (hA : ∀ q, H0.size ≤ q → A q) {k9 : Int} {N2 : Nat} {a0 : vp_A} (ha : ∀ cA : ClassId, vp_cell cA a0 = arrV cA N2 (fun _ => defaultValue ty)) (hk : 0 ≤ k9 ∧ k9 ≤ 65536) (hN : k9.toNat = N2) (hbytes : N2 * componentBytes ty ≤ 536870912) (hcells : cells + 1 ≤ R.cells) (hslots : slots + N2 ≤ R.slots) (d : decode cc pc = .ok (.newarray atype, 2))
    (kk : ∀ (q : Nat) (H1 : Heap), va_P D cl (wl ++ [(q, .inl (cI, a0))]) H1 → va_D A (wl ++ [(q, .inl (cI, a0))]) → va_S A H0 H1 locs →
      W p l e R s m args below meth c H1 locs (cells + 1) (slots + N2) Q (F0 m (pc + 2) ls (.ref q :: rest))) : W p l e R s m args below meth c H locs cells slots Q (F0 m pc ls (.int (iI k9) :: rest)) := by
  have h0 : ¬ iI k9 < 0 := by
    rw [← iI_0, iI_lt (by omega) (by omega)]
    omega
  refine va_newa hx hb harr hty hK hP hD hS hA ha h0 (by rw [iI_N ⟨hk.1, by omega⟩]; exact hN) hbytes hcells hslots d (fun q cA H1 hK2 hP2 hD2 hS2 => ?_)
  have e1 := hRA s cI (hK.2 t0 _ ht).2
  have e2 := hRA s cA (hK2.2 tys.length (cA, ty) (by rw [List.getElem?_append_right (Nat.le_refl _)]; simp)).2
  have e3 : cA = cI := Option.some.inj (e2.symm.trans e1)
  subst e3
  exact kk q H1 hP2 hD2 hS2
end IN1
def IP0 (D : va_G) (cI : ClassId) (base st : Nat) (Z : Nat → Nat) (x0 sz : Nat) : State → Heap → Prop := fun U H => SW D cI base st Z U H ∧ va_P D vwCl [(x0, .inr (0, [.null, .null, .int (iI 0), .int (iI 0), .int (iI 0), .null, .null, .null]))] H ∧ H.size = sz ∧ base ≤ x0
theorem IP0_mv {D : va_G} {cI : ClassId} {base st : Nat} {Z : Nat → Nat} {x0 sz : Nat} : mvb (IP0 D cI base st Z x0 sz) := fun _ _ _ hW h => ⟨h.1.move hW, h.2⟩
set_option maxHeartbeats 4000000 in
set_option maxRecDepth 100000 in
theorem c_init (l : Launch) (D : va_G) (cI : ClassId) (base st : Nat) (Z : Nat → Nat) (x0 sz : Nat) : in_M l yX0_init wsX0_init ({ frames := 1, cells := 5, slots := 137, locals := 20 } : Room) [.ref x0] (IP0 D cI base st Z x0 sz) (fun H => ∃ x1 x2 x5 x6 x7 : Nat, CW D cI base x0 x1 x2 x5 x6 x7 0 0 0 (fun _ => 0) (fun _ => 0) (fun _ => 0) (fun _ => -1) (fun _ => 0) H ∧ ∀ q, mC x0 x1 x2 x5 x6 x7 q → q = x0 ∨ sz ≤ q) (fun q => q = x0 ∨ sz ≤ q) 5 137 := by
  refine in_of (cc := cX0_init) (maxL := 2) (own := RX0) (by decide) rfl rfl (Nat.le_of_ble_eq_true rfl) ?_
  intro p e s m below meth c ls B hin2 hI hl
  obtain ⟨hx, hb, hml, hr, hts, hown, hlocks⟩ := B
  obtain ⟨hSW0, hP, hsz, hbx⟩ := hI
  obtain ⟨hK, hZL, ⟨hstb, xs, hXL, hAL⟩, hTW⟩ := id hSW0
  subst hsz
  have hx0 : x0 < s.heap.size := (hP 0 _ rfl).lt
  have hl : lv_has ls 2 [(0, .ref x0)] := hl
  have hin : ∀ w ∈ u_ws RX0 TX0 8, w ∈ wsX0_init := by decide +kernel
  have hmb : ∀ q, (fun q : Nat => q = x0 ∨ s.heap.size ≤ q) q → base ≤ q := fun q h => by rcases h with h | h <;> omega
  have hA : ∀ q : Nat, s.heap.size ≤ q → (fun q : Nat => q = x0 ∨ s.heap.size ≤ q) q := fun q h => Or.inr h
  have hS : va_S (fun q : Nat => q = x0 ∨ s.heap.size ≤ q) s.heap s.heap [] := va_S.rf
  have hD : va_D (fun q : Nat => q = x0 ∨ s.heap.size ≤ q) [(x0, .inr (0, [.null, .null, .int (iI 0), .int (iI 0), .int (iI 0), .null, .null, .null]))] := va_D1 (Or.inl rfl)
  refine lv_aload_n hx hb dX0_init_0 rfl (lv_at hl 0 rfl) ?_
  refine W.objInit hx hb hown (hts (.methodLink RX0 1 objectInit) (by decide +kernel)) (hts (.instanceMethod objectInit) (by decide +kernel)) (hts (.code objectInit ⟨#[0xb1]⟩ 1 none) (by decide +kernel)) rfl (by rw [hml]; exact hl.1) rfl dX0_init_1 (Nat.le_of_ble_eq_true rfl) (Nat.le_of_ble_eq_true rfl) ?_
  refine W.eq (g2 := F0 m 4 ls []) rfl ?_
  refine lv_aload_n hx hb dX0_init_4 rfl (lv_at hl 0 rfl) ?_
  refine pv_bipush hx hb dX0_init_5 (by decide +kernel) ?_
  refine pv_newa (ty := .int) (atype := .int) (N2 := 60) (a0 := (60, .inl (fun _ => iI 0))) hx hb (hts (.arrayClass .int) (by decide +kernel)) rfl hK 0 rfl (fun _ _ h => h) hP hD hS hA (fun cA => by rw [iI_0]; rfl) (by omega) rfl (Nat.le_of_ble_eq_true rfl) (Nat.le_of_ble_eq_true rfl) (Nat.le_of_ble_eq_true rfl) dX0_init_7 (fun x1 H hP hD hS => ?_)
  have hP : va_P D vwCl [(x0, .inr (0, [.null, .null, .int (iI 0), .int (iI 0), .int (iI 0), .null, .null, .null])), (x1, .inl (cI, 60, .inl (fun _ => iI 0)))] H := hP
  have hD : va_D (fun q : Nat => q = x0 ∨ s.heap.size ≤ q) [(x0, .inr (0, [.null, .null, .int (iI 0), .int (iI 0), .int (iI 0), .null, .null, .null])), (x1, .inl (cI, 60, .inl (fun _ => iI 0)))] := hD
  refine va_putF (D := D) (ci := 0) (v := .ref x1) (ty := .array .int) (C := RX0) (T := TX0) (N := 8) hx hb hts hin tyX0 tyX0_ok nmX0 hown hK hP hD hS 0 rfl rfl 0 (by decide) (hts (.fieldLink RX0 9 "ShelfMarks" "folders" "[I") (by decide +kernel)) (fun _ h9 => h9) rfl hin2 rfl (by decide +kernel) rfl rfl (Nat.le_of_ble_eq_true rfl) dX0_init_9 (fun H locs hP hD hS => ?_)
  have hP : va_P D vwCl [(x0, .inr (0, [.ref x1, .null, .int (iI 0), .int (iI 0), .int (iI 0), .null, .null, .null])), (x1, .inl (cI, 60, .inl (fun _ => iI 0)))] H := hP
  have hD : va_D (fun q : Nat => q = x0 ∨ s.heap.size ≤ q) [(x0, .inr (0, [.ref x1, .null, .int (iI 0), .int (iI 0), .int (iI 0), .null, .null, .null])), (x1, .inl (cI, 60, .inl (fun _ => iI 0)))] := hD
  refine lv_aload_n hx hb dX0_init_12 rfl (lv_at hl 0 rfl) ?_
  refine pv_bipush hx hb dX0_init_13 (by decide +kernel) ?_
  refine pv_newa (ty := .int) (atype := .int) (N2 := 60) (a0 := (60, .inl (fun _ => iI 0))) hx hb (hts (.arrayClass .int) (by decide +kernel)) rfl hK 0 rfl (fun _ _ h => h) hP hD hS hA (fun cA => by rw [iI_0]; rfl) (by omega) rfl (Nat.le_of_ble_eq_true rfl) (Nat.le_of_ble_eq_true rfl) (Nat.le_of_ble_eq_true rfl) dX0_init_15 (fun x2 H hP hD hS => ?_)
  have hP : va_P D vwCl [(x0, .inr (0, [.ref x1, .null, .int (iI 0), .int (iI 0), .int (iI 0), .null, .null, .null])), (x1, .inl (cI, 60, .inl (fun _ => iI 0))), (x2, .inl (cI, 60, .inl (fun _ => iI 0)))] H := hP
  have hD : va_D (fun q : Nat => q = x0 ∨ s.heap.size ≤ q) [(x0, .inr (0, [.ref x1, .null, .int (iI 0), .int (iI 0), .int (iI 0), .null, .null, .null])), (x1, .inl (cI, 60, .inl (fun _ => iI 0))), (x2, .inl (cI, 60, .inl (fun _ => iI 0)))] := hD
  refine va_putF (D := D) (ci := 0) (v := .ref x2) (ty := .array .int) (C := RX0) (T := TX0) (N := 8) hx hb hts hin tyX0 tyX0_ok nmX0 hown hK hP hD hS 0 rfl rfl 1 (by decide) (hts (.fieldLink RX0 13 "ShelfMarks" "marks" "[I") (by decide +kernel)) (fun _ h9 => h9) rfl hin2 rfl (by decide +kernel) rfl rfl (Nat.le_of_ble_eq_true rfl) dX0_init_17 (fun H locs hP hD hS => ?_)
  have hP : va_P D vwCl [(x0, .inr (0, [.ref x1, .ref x2, .int (iI 0), .int (iI 0), .int (iI 0), .null, .null, .null])), (x1, .inl (cI, 60, .inl (fun _ => iI 0))), (x2, .inl (cI, 60, .inl (fun _ => iI 0)))] H := hP
  have hD : va_D (fun q : Nat => q = x0 ∨ s.heap.size ≤ q) [(x0, .inr (0, [.ref x1, .ref x2, .int (iI 0), .int (iI 0), .int (iI 0), .null, .null, .null])), (x1, .inl (cI, 60, .inl (fun _ => iI 0))), (x2, .inl (cI, 60, .inl (fun _ => iI 0)))] := hD
  refine lv_aload_n hx hb dX0_init_20 rfl (lv_at hl 0 rfl) ?_
  have hSb : va_S (fun q => base ≤ q) s.heap H locs := ⟨hS.1, fun q a b => hS.2.1 q a (fun z => b (hmb q z)), fun l h => hmb _ (hS.2.2 l h)⟩
  refine va_gets (A := fun q => base ≤ q) hx hb hZL hSb hown (hts (.fieldLink RX0 16 "ShelfMarks" "LOADED_FROM" "[I") (by decide +kernel)) (fun _ h => h) dX0_init_21 ?_
  have hstl : st < s.heap.size := by obtain ⟨scr, h1, -⟩ := hXL; exact (Array.getElem?_eq_some_iff.mp h1).1
  have hXH : va_T .int st 9 (fun j => .int (xs j)) (fun q => base ≤ q) s H := hXL.kept (fun q hq hnb => hS.2.1 q hq (fun z => hnb (hmb q z)))
  refine pv_xlen (v := 9) hx hb hXH (by decide +kernel) dX0_init_24 ?_
  refine pv_newa (ty := .int) (atype := .int) (N2 := 9) (a0 := (9, .inl (fun _ => iI 0))) hx hb (hts (.arrayClass .int) (by decide +kernel)) rfl hK 0 rfl (fun _ _ h => h) hP hD hS hA (fun cA => by rw [iI_0]; rfl) (by omega) rfl (Nat.le_of_ble_eq_true rfl) (Nat.le_of_ble_eq_true rfl) (Nat.le_of_ble_eq_true rfl) dX0_init_25 (fun x5 H hP hD hS => ?_)
  have hP : va_P D vwCl [(x0, .inr (0, [.ref x1, .ref x2, .int (iI 0), .int (iI 0), .int (iI 0), .null, .null, .null])), (x1, .inl (cI, 60, .inl (fun _ => iI 0))), (x2, .inl (cI, 60, .inl (fun _ => iI 0))), (x5, .inl (cI, 9, .inl (fun _ => iI 0)))] H := hP
  have hD : va_D (fun q : Nat => q = x0 ∨ s.heap.size ≤ q) [(x0, .inr (0, [.ref x1, .ref x2, .int (iI 0), .int (iI 0), .int (iI 0), .null, .null, .null])), (x1, .inl (cI, 60, .inl (fun _ => iI 0))), (x2, .inl (cI, 60, .inl (fun _ => iI 0))), (x5, .inl (cI, 9, .inl (fun _ => iI 0)))] := hD
  refine va_putF (D := D) (ci := 0) (v := .ref x5) (ty := .array .int) (C := RX0) (T := TX0) (N := 8) hx hb hts hin tyX0 tyX0_ok nmX0 hown hK hP hD hS 0 rfl rfl 5 (by decide) (hts (.fieldLink RX0 19 "ShelfMarks" "spreads" "[I") (by decide +kernel)) (fun _ h9 => h9) rfl hin2 rfl (by decide +kernel) rfl rfl (Nat.le_of_ble_eq_true rfl) dX0_init_27 (fun H locs hP hD hS => ?_)
  have hP : va_P D vwCl [(x0, .inr (0, [.ref x1, .ref x2, .int (iI 0), .int (iI 0), .int (iI 0), .ref x5, .null, .null])), (x1, .inl (cI, 60, .inl (fun _ => iI 0))), (x2, .inl (cI, 60, .inl (fun _ => iI 0))), (x5, .inl (cI, 9, .inl (fun _ => iI 0)))] H := hP
  have hD : va_D (fun q : Nat => q = x0 ∨ s.heap.size ≤ q) [(x0, .inr (0, [.ref x1, .ref x2, .int (iI 0), .int (iI 0), .int (iI 0), .ref x5, .null, .null])), (x1, .inl (cI, 60, .inl (fun _ => iI 0))), (x2, .inl (cI, 60, .inl (fun _ => iI 0))), (x5, .inl (cI, 9, .inl (fun _ => iI 0)))] := hD
  refine lv_aload_n hx hb dX0_init_30 rfl (lv_at hl 0 rfl) ?_
  refine pv_iconst hx hb dX0_init_31 ?_
  refine pv_newa (ty := .int) (atype := .int) (N2 := 4) (a0 := (4, .inl (fun _ => iI 0))) hx hb (hts (.arrayClass .int) (by decide +kernel)) rfl hK 0 rfl (fun _ _ h => h) hP hD hS hA (fun cA => by rw [iI_0]; rfl) (by omega) rfl (Nat.le_of_ble_eq_true rfl) (Nat.le_of_ble_eq_true rfl) (Nat.le_of_ble_eq_true rfl) dX0_init_32 (fun x6 H hP hD hS => ?_)
  have hP : va_P D vwCl [(x0, .inr (0, [.ref x1, .ref x2, .int (iI 0), .int (iI 0), .int (iI 0), .ref x5, .null, .null])), (x1, .inl (cI, 60, .inl (fun _ => iI 0))), (x2, .inl (cI, 60, .inl (fun _ => iI 0))), (x5, .inl (cI, 9, .inl (fun _ => iI 0))), (x6, .inl (cI, 4, .inl (fun _ => iI 0)))] H := hP
  have hD : va_D (fun q : Nat => q = x0 ∨ s.heap.size ≤ q) [(x0, .inr (0, [.ref x1, .ref x2, .int (iI 0), .int (iI 0), .int (iI 0), .ref x5, .null, .null])), (x1, .inl (cI, 60, .inl (fun _ => iI 0))), (x2, .inl (cI, 60, .inl (fun _ => iI 0))), (x5, .inl (cI, 9, .inl (fun _ => iI 0))), (x6, .inl (cI, 4, .inl (fun _ => iI 0)))] := hD
  refine va_putF (D := D) (ci := 0) (v := .ref x6) (ty := .array .int) (C := RX0) (T := TX0) (N := 8) hx hb hts hin tyX0 tyX0_ok nmX0 hown hK hP hD hS 0 rfl rfl 6 (by decide) (hts (.fieldLink RX0 22 "ShelfMarks" "readerFolders" "[I") (by decide +kernel)) (fun _ h9 => h9) rfl hin2 rfl (by decide +kernel) rfl rfl (Nat.le_of_ble_eq_true rfl) dX0_init_34 (fun H locs hP hD hS => ?_)
  have hP : va_P D vwCl [(x0, .inr (0, [.ref x1, .ref x2, .int (iI 0), .int (iI 0), .int (iI 0), .ref x5, .ref x6, .null])), (x1, .inl (cI, 60, .inl (fun _ => iI 0))), (x2, .inl (cI, 60, .inl (fun _ => iI 0))), (x5, .inl (cI, 9, .inl (fun _ => iI 0))), (x6, .inl (cI, 4, .inl (fun _ => iI 0)))] H := hP
  have hD : va_D (fun q : Nat => q = x0 ∨ s.heap.size ≤ q) [(x0, .inr (0, [.ref x1, .ref x2, .int (iI 0), .int (iI 0), .int (iI 0), .ref x5, .ref x6, .null])), (x1, .inl (cI, 60, .inl (fun _ => iI 0))), (x2, .inl (cI, 60, .inl (fun _ => iI 0))), (x5, .inl (cI, 9, .inl (fun _ => iI 0))), (x6, .inl (cI, 4, .inl (fun _ => iI 0)))] := hD
  refine lv_aload_n hx hb dX0_init_37 rfl (lv_at hl 0 rfl) ?_
  refine pv_iconst hx hb dX0_init_38 ?_
  refine pv_newa (ty := .int) (atype := .int) (N2 := 4) (a0 := (4, .inl (fun _ => iI 0))) hx hb (hts (.arrayClass .int) (by decide +kernel)) rfl hK 0 rfl (fun _ _ h => h) hP hD hS hA (fun cA => by rw [iI_0]; rfl) (by omega) rfl (Nat.le_of_ble_eq_true rfl) (Nat.le_of_ble_eq_true rfl) (Nat.le_of_ble_eq_true rfl) dX0_init_39 (fun x7 H hP hD hS => ?_)
  have hP : va_P D vwCl [(x0, .inr (0, [.ref x1, .ref x2, .int (iI 0), .int (iI 0), .int (iI 0), .ref x5, .ref x6, .null])), (x1, .inl (cI, 60, .inl (fun _ => iI 0))), (x2, .inl (cI, 60, .inl (fun _ => iI 0))), (x5, .inl (cI, 9, .inl (fun _ => iI 0))), (x6, .inl (cI, 4, .inl (fun _ => iI 0))), (x7, .inl (cI, 4, .inl (fun _ => iI 0)))] H := hP
  have hD : va_D (fun q : Nat => q = x0 ∨ s.heap.size ≤ q) [(x0, .inr (0, [.ref x1, .ref x2, .int (iI 0), .int (iI 0), .int (iI 0), .ref x5, .ref x6, .null])), (x1, .inl (cI, 60, .inl (fun _ => iI 0))), (x2, .inl (cI, 60, .inl (fun _ => iI 0))), (x5, .inl (cI, 9, .inl (fun _ => iI 0))), (x6, .inl (cI, 4, .inl (fun _ => iI 0))), (x7, .inl (cI, 4, .inl (fun _ => iI 0)))] := hD
  refine va_putF (D := D) (ci := 0) (v := .ref x7) (ty := .array .int) (C := RX0) (T := TX0) (N := 8) hx hb hts hin tyX0 tyX0_ok nmX0 hown hK hP hD hS 0 rfl rfl 7 (by decide) (hts (.fieldLink RX0 25 "ShelfMarks" "readerCounts" "[I") (by decide +kernel)) (fun _ h9 => h9) rfl hin2 rfl (by decide +kernel) rfl rfl (Nat.le_of_ble_eq_true rfl) dX0_init_41 (fun H locs hP hD hS => ?_)
  have hP : va_P D vwCl [(x0, .inr (0, [.ref x1, .ref x2, .int (iI 0), .int (iI 0), .int (iI 0), .ref x5, .ref x6, .ref x7])), (x1, .inl (cI, 60, .inl (fun _ => iI 0))), (x2, .inl (cI, 60, .inl (fun _ => iI 0))), (x5, .inl (cI, 9, .inl (fun _ => iI 0))), (x6, .inl (cI, 4, .inl (fun _ => iI 0))), (x7, .inl (cI, 4, .inl (fun _ => iI 0)))] H := hP
  have hD : va_D (fun q : Nat => q = x0 ∨ s.heap.size ≤ q) [(x0, .inr (0, [.ref x1, .ref x2, .int (iI 0), .int (iI 0), .int (iI 0), .ref x5, .ref x6, .ref x7])), (x1, .inl (cI, 60, .inl (fun _ => iI 0))), (x2, .inl (cI, 60, .inl (fun _ => iI 0))), (x5, .inl (cI, 9, .inl (fun _ => iI 0))), (x6, .inl (cI, 4, .inl (fun _ => iI 0))), (x7, .inl (cI, 4, .inl (fun _ => iI 0)))] := hD
  have hAx : ∀ q, mC x0 x1 x2 x5 x6 x7 q → q = x0 ∨ s.heap.size ≤ q := fun q h => by rcases h with rfl | rfl | rfl | rfl | rfl | rfl; exact hD.2 0 _ rfl; exact hD.2 1 _ rfl; exact hD.2 2 _ rfl; exact hD.2 3 _ rfl; exact hD.2 4 _ rfl; exact hD.2 5 _ rfl
  obtain ⟨f, hf⟩ : ∃ z : Nat → Int32, z = (fun _ => iI 0) := ⟨_, rfl⟩
  have hP : va_P D vwCl (W0 cI x0 x1 x2 x5 x6 x7 0 0 0 f f f f f) H := by rw [hf]; exact hP
  have hD : va_D (fun q : Nat => q = x0 ∨ s.heap.size ≤ q) (W0 cI x0 x1 x2 x5 x6 x7 0 0 0 f f f f f) := by rw [hf]; exact hD
  have hA0 : ∀ n, AR f n (fun _ => 0) := fun n k _ _ => by rw [hf]
  have hR : ∃ g sp rf rc : Nat → Int32, g = f ∧ sp = f ∧ rf = f ∧ rc = f := ⟨f, f, f, f, rfl, rfl, rfl, rfl⟩
  obtain ⟨g, sp, rf, rc, eg, es, er, ec⟩ := hR
  have hP : va_P D vwCl (W0 cI x0 x1 x2 x5 x6 x7 0 0 0 f g sp rf rc) H := by rw [eg, es, er, ec]; exact hP
  have hD : va_D (fun q : Nat => q = x0 ∨ s.heap.size ≤ q) (W0 cI x0 x1 x2 x5 x6 x7 0 0 0 f g sp rf rc) := by rw [eg, es, er, ec]; exact hD
  have hAf := hA0 0
  have hAg : AR g 0 (fun _ => 0) := by rw [eg]; exact hA0 0
  have hAsp : AR sp 9 (fun _ => 0) := by rw [es]; exact hA0 9
  have hArf : AR rf 4 (fun _ => 0) := by rw [er]; exact hA0 4
  have hArc : AR rc 4 (fun _ => 0) := by rw [ec]; exact hA0 4
  have q_readerFolders := hts (.fieldLink RX0 22 "ShelfMarks" "readerFolders" "[I") (by decide +kernel)
  refine pv_iconst hx hb dX0_init_44 ?_
  refine lv_istore_n (lv' := [(1, .int (iI (0))), (0, .ref x0)]) hx hb dX0_init_45 rfl hl (by decide) rfl (fun ls hl => ?_)
  have hloop46 : ∀ (fuel : Nat) (k : Int) (R2 : Int → Int) (H : Heap) (locs : List Loc) (ls : Array Slot), (4 - k) < fuel → (0 ≤ k ∧ k ≤ 4) → (∀ j : Int, 0 ≤ j → j < k → R2 j = -1) → CW D cI base x0 x1 x2 x5 x6 x7 (0) (0) (0) (fun _ => 0) (fun _ => 0) (fun _ => 0) (R2) (fun _ => 0) H → va_S (fun q => q = x0 ∨ s.heap.size ≤ q) s.heap H locs → lv_has ls 2 [(0, .ref x0), (1, .int (iI (k)))] → W p l e ({ frames := 1, cells := 5, slots := 137, locals := 20 } : Room) s m ([.ref x0] : List Value).toArray below meth c H locs 5 137 (MQ below (mu_Q none (fun H => ∃ x1 x2 x5 x6 x7 : Nat, CW D cI base x0 x1 x2 x5 x6 x7 0 0 0 (fun _ => 0) (fun _ => 0) (fun _ => 0) (fun _ => -1) (fun _ => 0) H ∧ ∀ q, mC x0 x1 x2 x5 x6 x7 q → q = x0 ∨ s.heap.size ≤ q) (fun q => q = x0 ∨ s.heap.size ≤ q)) ([.ref x0] : List Value).toArray s 5 137 (fun q => q = x0 ∨ s.heap.size ≤ q)) (F0 m 46 ls []) := by
    intro fuel
    induction fuel with
    | zero => intro k R2 H locs ls hfu hk hRa hC9 hS hl; exfalso; omega
    | succ fuel ih =>
      intro k R2 H locs ls hfu hk hRa hC9 hS hl
      obtain ⟨f, g, sp, rf, rc, hAf, hAg, hAsp, hArf, hArc, hP, hDb⟩ := hC9
      have hD : va_D (fun q => q = x0 ∨ s.heap.size ≤ q) (W0 cI x0 x1 x2 x5 x6 x7 (0) (0) (0) f g sp rf rc) := (CW_mD hDb).weaken (fun _ _ _ h => hAx _ h)
      refine lv_iload_n hx hb dX0_init_46 rfl (lv_at hl 1 rfl) ?_
      refine pv_iconst hx hb dX0_init_47 ?_
      refine pv_icmp_ge (tgt := 64) hx hb dX0_init_48 (by decide) (by omega) (fun c_48 => ?_) (fun c_48 => ?_)
      · -- 48t
        exact in_vret hx hb hr hlocks hS dX0_init_64 ⟨x1, x2, x5, x6, x7, ⟨f, g, sp, rf, rc, hAf, hAg, hAsp, AR_to hArf (Int.le_refl _) (fun j h0 h1 => hRa j h0 (by omega)), hArc, hP, hD.weaken (fun _ _ _ h => hmb _ h)⟩, hAx⟩
      · -- 48f
        refine lv_aload_n hx hb dX0_init_51 rfl (lv_at hl 0 rfl) ?_
        refine va_get (D := D) (ci := 0) (v := .ref x6) (C := RX0) (T := TX0) (N := 8) hx hb hts hin hown hK hP 0 rfl rfl 6 (by decide) q_readerFolders (fun _ h9 => h9) rfl dX0_init_52 ?_
        refine lv_iload_n hx hb dX0_init_55 rfl (lv_at hl 1 rfl) ?_
        refine pv_iconst hx hb dX0_init_56 ?_
        refine pv_iast (i := k) (v := (-1)) hx hb hK hP hD hS 4 0 rfl rfl (by omega) (by decide) dX0_init_57 (fun H locs hP hD hS => ?_)
        have hP : va_P D vwCl (W0 cI x0 x1 x2 x5 x6 x7 (0) (0) (0) f g sp (upd rf (k).toNat (iI ((-1)))) rc) H := hP
        have hD : va_D (fun q => q = x0 ∨ s.heap.size ≤ q) (W0 cI x0 x1 x2 x5 x6 x7 (0) (0) (0) f g sp (upd rf (k).toNat (iI ((-1)))) rc) := hD
        have hArf := AR_up (k := k) (v := (-1)) hArf (by omega)
        generalize upd rf (k).toNat (iI ((-1))) = rf at hP hD hArf
        refine pv_iinc (lv' := [(1, .int (iI (k + 1))), (0, .ref x0)]) hx hb dX0_init_58 hl (k := 1) rfl (by decide) rfl (fun ls hl => ?_)
        refine lv_goto (tgt := 46) hx hb dX0_init_61 (by decide) ?_
        exact ih (k + 1) (_) _ _ ls (by omega) (by omega) (fun j h0 h1 => by unfold uI; split; rfl; exact hRa j h0 (by omega)) ⟨f, g, sp, rf, rc, hAf, hAg, hAsp, hArf, hArc, hP, hD.weaken (fun _ _ _ h => hmb _ h)⟩ hS (lv_sub hl [1, 0] rfl)
  exact hloop46 ((4 : Int).toNat + 1) (0) (fun _ => 0) _ _ ls (by omega) (by omega) (fun j h0 h1 => absurd h1 (by omega)) ⟨f, g, sp, rf, rc, hAf, hAg, hAsp, hArf, hArc, hP, hD.weaken (fun _ _ _ h => hmb _ h)⟩ hS (lv_sub hl [1, 0] rfl)
