/-! the law's helpers: numbers, arrays by themselves, judgements -/
theorem CW_fr {D : va_G} {cI : ClassId} {base x0 x1 x2 x5 x6 x7 : Nat} {n came MV : Int} {F G SP RF RC : Int → Int} {H H1 : Heap} {A : Nat → Prop} (h : CW D cI base x0 x1 x2 x5 x6 x7 n came MV F G SP RF RC H) (hk : ∀ q : Nat, q < H.size → ¬ A q → H1[q]? = H[q]?) (hA : ∀ q, mC x0 x1 x2 x5 x6 x7 q → ¬ A q) : CW D cI base x0 x1 x2 x5 x6 x7 n came MV F G SP RF RC H1 := by
  obtain ⟨f, g, sp, rf, rc, a1, a2, a3, a4, a5, hP, hD⟩ := h
  exact ⟨f, g, sp, rf, rc, a1, a2, a3, a4, a5, hP.kept (fun k q hq => hk q.1 (hP k q hq).lt (hA q.1 ((CW_mD hD).2 k q hq))), hD⟩
theorem CW_b {D : va_G} {cI : ClassId} {base x0 x1 x2 x5 x6 x7 : Nat} {n came MV : Int} {F G SP RF RC : Int → Int} {H : Heap} (h : CW D cI base x0 x1 x2 x5 x6 x7 n came MV F G SP RF RC H) : ∀ q, mC x0 x1 x2 x5 x6 x7 q → base ≤ q := by
  obtain ⟨f, g, sp, rf, rc, -, -, -, -, -, hP, hD⟩ := h
  exact mC_b hD
def wr_M (l : Launch) (y : MethodName) (ws : List Cond) (rm : Room) (av : List Value) (P : State → Heap → Prop) (v : Int) (P2 : Heap → Prop) (A : Nat → Prop) (mc ms : Nat) : Prop := vx_Met l y ws rm (va_Pc av (fun U => P U U.heap)) (mu_Q (some (.int (iI v))) P2 A) (fun _ _ _ => False) mc ms A
theorem va_S_step {A : Nat → Prop} {H0 H H1 : Heap} (h : va_S A H0 H []) (h1 : va_S (fun q : Nat => H.size ≤ q) H H1 []) : va_S A H0 H1 [] :=
  ⟨Nat.le_trans h.1 h1.1, fun q a b => (h1.2.1 q (Nat.lt_of_lt_of_le a h.1) (Nat.not_le.mpr (Nat.lt_of_lt_of_le a h.1))).trans (h.2.1 q a b), fun _ h => by cases h⟩
theorem CW_mlt {D : va_G} {cI : ClassId} {base x0 x1 x2 x5 x6 x7 : Nat} {n came MV : Int} {F G SP RF RC : Int → Int} {H : Heap} (h : CW D cI base x0 x1 x2 x5 x6 x7 n came MV F G SP RF RC H) : ∀ q, mC x0 x1 x2 x5 x6 x7 q → q < H.size := by
  obtain ⟨f, g, sp, rf, rc, -, -, -, -, -, hP, -⟩ := h
  intro q hq
  rcases hq with rfl | rfl | rfl | rfl | rfl | rfl
  · exact (hP 0 _ rfl).lt
  · exact (hP 1 _ rfl).lt
  · exact (hP 2 _ rfl).lt
  · exact (hP 3 _ rfl).lt
  · exact (hP 4 _ rfl).lt
  · exact (hP 5 _ rfl).lt
theorem va_S_nil {A : Nat → Prop} {H0 H : Heap} {locs : List Loc} (h : va_S A H0 H locs) : va_S A H0 H [] := ⟨h.1, h.2.1, fun _ h => by cases h⟩
theorem va_S_wk {A B : Nat → Prop} {H0 H : Heap} {locs : List Loc} (h : va_S A H0 H locs) (hAB : ∀ q, A q → B q) : va_S B H0 H locs := ⟨h.1, fun q a b => h.2.1 q a (fun z => b (hAB q z)), fun l h9 => hAB _ (h.2.2 l h9)⟩
/-- an int array by itself -/
def GP (D : va_G) (cI : ClassId) (o N : Nat) (f : Nat → Int32) (H : Heap) : Prop := va_P D vwCl [(o, .inl (cI, N, .inl f))] H
theorem GP_fr {D : va_G} {cI : ClassId} {o N : Nat} {f : Nat → Int32} {H H1 : Heap} {A : Nat → Prop} (h : GP D cI o N f H) (hk : ∀ q : Nat, q < H.size → ¬ A q → H1[q]? = H[q]?) (hA : ¬ A o) : GP D cI o N f H1 := by
  refine va_P.kept h (fun k q hq => ?_)
  have h1 := (h k q hq).lt
  match k, hq with
  | 0, hq => cases hq; exact hk _ h1 hA
  | k + 1, hq => simp at hq
theorem GP_lt {D : va_G} {cI : ClassId} {o N : Nat} {f : Nat → Int32} {H : Heap} (h : GP D cI o N f H) : o < H.size := (h 0 _ rfl).lt
/-- the row of partners: place by place of the other one's folders -/
def OP (D : va_G) (cI : ClassId) (pp : Nat) (PN : Int → Int) (H : Heap) : Prop := ∃ f : Nat → Int32, AR f 64 PN ∧ GP D cI pp 64 f H
theorem OP_fr {D : va_G} {cI : ClassId} {pp : Nat} {PN : Int → Int} {H H1 : Heap} {A : Nat → Prop} (h : OP D cI pp PN H) (hk : ∀ q : Nat, q < H.size → ¬ A q → H1[q]? = H[q]?) (hA : ¬ A pp) : OP D cI pp PN H1 := by
  obtain ⟨f, h1, h2⟩ := h
  exact ⟨f, h1, GP_fr h2 hk hA⟩
theorem OP_lt {D : va_G} {cI : ClassId} {pp : Nat} {PN : Int → Int} {H : Heap} (h : OP D cI pp PN H) : pp < H.size := by
  obtain ⟨f, h1, h2⟩ := h
  exact GP_lt h2
theorem CW_RF {D : va_G} {cI : ClassId} {base x0 x1 x2 x5 x6 x7 : Nat} {n came MV : Int} {F G SP RF RF' RC : Int → Int} {H : Heap} (h : CW D cI base x0 x1 x2 x5 x6 x7 n came MV F G SP RF RC H) (hR : ∀ k : Int, 0 ≤ k → k < 4 → RF k = RF' k) : CW D cI base x0 x1 x2 x5 x6 x7 n came MV F G SP RF' RC H := by
  obtain ⟨f, g, sp, rf, rc, a1, a2, a3, a4, a5, hP, hD⟩ := h
  exact ⟨f, g, sp, rf, rc, a1, a2, a3, AR_to a4 (Int.le_refl _) hR, a5, hP, hD⟩
theorem iI_rem {a b : Int} (ha : 0 ≤ a ∧ a ≤ 2147483647) (hb : 0 < b ∧ b ≤ 2147483647) : iI a - iI a / iI b * iI b = iI (a % b) := by
  rw [iI_div ha hb, iI_mul, iI_sub, Int.emod_def, Int.mul_comm]
theorem iI_and (x : Int32) : ∃ v : Int, (0 ≤ v ∧ v ≤ 2147483647) ∧ x &&& 2147483647 = iI v := by
  have h1 : (x &&& 2147483647).toBitVec.toNat ≤ 2147483647 := by
    rw [Int32.toBitVec_and, BitVec.toNat_and]
    exact Nat.and_le_right
  refine ⟨((x &&& 2147483647).toBitVec.toNat : Int), by omega, ?_⟩
  rw [iI_nI]
  exact Int32.toBitVec_inj.mp (by show _ = BitVec.ofNat 32 _; simp)
def ar_M (l : Launch) (y : MethodName) (ws : List Cond) (rm : Room) (av : List Value) (P : State → Heap → Prop) (v : Int) : Prop := vx_Met l y ws rm (va_Pc av (fun U => P U U.heap)) (pu_Q v) (fun _ _ _ => False) 0 0 (fun _ => False)
def nw_M (l : Launch) (y : MethodName) (ws : List Cond) (rm : Room) (av : List Value) (P : State → Heap → Prop) (ov : Option Value) (P2 : Heap → Prop) (A : Nat → Prop) (mc ms : Nat) : Prop := Met l y ws rm (va_Pc av (fun U => P U U.heap)) (mu_Q ov P2 A) mc ms A
section WR1
variable {p : Program} {l : Launch} {e : Env} {R : Room} {s : State} {m : MethodId} {args : Array Value} {below : List Frame} {meth : Method} {c : Code} {H : Heap} {locs : List Loc} {cells slots : Nat} {Q : State → Prop}
variable {y : MethodName} {bytes cc : ByteArray} {maxL nL n index : Nat} {ret : Option FieldType} {ws ws' : List Cond} {rm : Room} {P : State → Heap → Prop} {Ts : List Cond} {own : String} {As rest st0 : List Value} {pc : Nat} {ls : Array Slot} {hh : List (Nat × Nat × Nat × Nat)}
theorem wr_call {v : Int} {P2 : Heap → Prop} {A A0 : Nat → Prop} {H0 : Heap} {mc ms : Nat} (hm : mvb P) (S : CallFix p m c cc nL s args Ts own) (hM : wr_M l y ws rm As P v P2 A mc ms) (cw : vx_CSW R s args own index y bytes maxL ret hh ws rm mc ms n) (hP : P s H)
    (hst : st0 = As.reverse ++ rest) (hn : As.length = n) (hsz : ls.size = nL) (hW : (rest.map fun v => v.category).sum ≤ 8) (d : decode cc pc = .ok (.invokestatic index, 3)) (hf : cells + mc ≤ R.cells ∧ slots + ms ≤ R.slots)
    (hS : va_S A0 H0 H locs) (hA : ∀ q, A q → A0 q)
    (kk : ∀ (H1 : Heap) (locs1 : List Loc), P2 H1 → H.size ≤ H1.size → (∀ q : Nat, q < H.size → ¬ A q → H1[q]? = H[q]?) → va_S A0 H0 H1 locs1 → W p l e R s m args below meth c H1 locs1 (cells + mc) (slots + ms) Q (F0 m (pc + 3) ls (.int (iI v) :: rest))) : W p l e R s m args below meth c H locs cells slots Q (F0 m pc ls st0) := by
  intro T hT X
  rcases (vx_runSX S hM cw ⟨blind_of hm _, fun U hU hw => ⟨rfl, by show P U U.heap; rw [hU]; exact hm s U H hw hP⟩⟩ (g := F0 m pc ls st0) rfl hn hsz hst (lv_room hW) d hf) T hT X with ⟨v9, st₀, t, T', L, h0, X', hL, e1, e2, ⟨hv, hp2, hz, hk⟩, st⟩ | ⟨q, st₀, t, T', L, E2, ce, h0, X', hL, e1, e2, hF, hce, hcv, hcl, st⟩
  · cases hv
    rw [h0] at hz hk
    obtain ⟨t2, a1, b1⟩ := kk T'.heap (locs ++ L) (by rw [e1]; exact hp2) (by rw [e1]; exact hz) (by rw [e1]; exact hk)
      ⟨Nat.le_trans hS.1 (by rw [e1]; exact hz), fun q h1 h2 => by rw [e1, hk q (Nat.lt_of_lt_of_le h1 hS.1) (fun z => h2 (hA q z))]; exact hS.2.1 q h1 h2, fun q hq => by
        rcases List.mem_append.mp hq with h | h
        · exact hS.2.2 q h
        · exact hA _ (hL q h)⟩ T' rfl X'
    exact ⟨t2, st t2 a1, b1⟩
  · exact hF.elim
theorem wr_of {v : Int} {P2 : Heap → Prop} {A : Nat → Prop} {mc ms : Nat} {av : List Value} (hy : plainName y.cls = true) (hw : ws = Cond.codeWith y cc maxL ret hh :: ws') (ho : y.cls = own) (hlen : (lg_sl av).length ≤ maxL)
    (body : ∀ (p : Program) (e : Env) (s : State) (m : MethodId) (below : List Frame) (meth : Method) (c : Code) (ls : Array Slot), bd_At p s m av.toArray meth c cc maxL ret ws own → c.exceptionTable.toList = tableOf hh → P s s.heap → lv_has ls maxL (lv_args 0 av) → va_S A s.heap s.heap [] →
      W p l e rm s m av.toArray below meth c s.heap [] 0 0 (vx_MQ below (mu_Q (some (.int (iI v))) P2 A) (fun _ _ _ => False) av.toArray s mc ms A) (F0 m 0 ls [])) : wr_M l y ws rm av P v P2 A mc ms := by
  refine vx_ofWH (cc := cc) (maxL := maxL) (ret := ret) (hh := hh) hy hw ?_
  intro p e s m args below meth c s₁ B hml hv
  obtain ⟨rfl, hP⟩ := hv
  have hown : s.vm.findClass y.cls = some m.cls := findClass_of_methodNamed B.named
  rw [ho] at hown
  rw [lg_entry_eq]
  have hts := atoms_spec (ws := ws) B.pre
  exact body p e s m below meth c _ ⟨B.exec, B.bytes, hml, B.returns, hts, hown, B.notSynchronized⟩ (vx_table (x := y) B (hts _ (by rw [hw]; exact List.mem_cons_self))) hP (lv_entry av hlen) va_S.rf
theorem wr_iret {v v9 : Int} {P2 : Heap → Prop} {A : Nat → Prop} (hx : p.tables.exec = Jvm.exec) (hb : c.code = cc) (hr : meth.sig.returnType = some .int) (hlocks : meth.locks = false) (hS : va_S A s.heap H locs) (d : decode cc pc = .ok (.ireturn, 1)) (h : v9 = v) (h2 : P2 H) : W p l e R s m args below meth c H locs cells slots (vx_MQ below (mu_Q (some (.int (iI v))) P2 A) (fun _ _ _ => False) args s cells slots A) (F0 m pc ls [.int (iI v9)]) := by
  subst h
  exact vx_ret (W.iret hx hb hr (fun t ht _ => ⟨rfl, by rw [ht]; exact h2, hS.F ht⟩) hS.2.2 d hlocks)
theorem ar_call {v : Int} (hm : mvb P) (S : CallFix p m c cc nL s args Ts own) (hM : ar_M l y ws rm As P v) (cw : vx_CSW R s args own index y bytes maxL ret hh ws rm 0 0 n) (hP : P s H)
    (hst : st0 = As.reverse ++ rest) (hn : As.length = n) (hsz : ls.size = nL) (hW : (rest.map fun v => v.category).sum ≤ 8) (d : decode cc pc = .ok (.invokestatic index, 3)) (hf : cells + 0 ≤ R.cells ∧ slots + 0 ≤ R.slots)
    (kk : W p l e R s m args below meth c H locs cells slots Q (F0 m (pc + 3) ls (.int (iI v) :: rest))) : W p l e R s m args below meth c H locs cells slots Q (F0 m pc ls st0) := by
  intro T hT X
  rcases (vx_runSX S hM cw ⟨blind_of hm _, fun U hU hw => ⟨rfl, by show P U U.heap; rw [hU]; exact hm s U H hw hP⟩⟩ (g := F0 m pc ls st0) rfl hn hsz hst (lv_room hW) d hf) T hT X with ⟨v9, st₀, t, T', L, h0, X', hL, e1, e2, ⟨hv, hh2⟩, st⟩ | ⟨q, st₀, t, T', L, E2, ce, h0, X', hL, e1, e2, hF, hce, hcv, hcl, st⟩
  · cases hv
    have hL0 : L = [] := List.eq_nil_iff_forall_not_mem.mpr (fun q hq => hL q hq)
    subst hL0
    rw [List.append_nil] at X'
    obtain ⟨t2, a1, b1⟩ := kk T' (by rw [e1, hh2, h0]) X'
    exact ⟨t2, st t2 a1, b1⟩
  · exact hF.elim
theorem ar_of {v : Int} {av : List Value} (hy : plainName y.cls = true) (hw : ws = Cond.codeWith y cc maxL ret hh :: ws') (ho : y.cls = own) (hlen : (lg_sl av).length ≤ maxL)
    (body : ∀ (p : Program) (e : Env) (s : State) (m : MethodId) (below : List Frame) (meth : Method) (c : Code) (ls : Array Slot), bd_At p s m av.toArray meth c cc maxL ret ws own → P s s.heap → lv_has ls maxL (lv_args 0 av) →
      W p l e rm s m av.toArray below meth c s.heap [] 0 0 (vx_MQ below (pu_Q v) (fun _ _ _ => False) av.toArray s 0 0 (fun _ => False)) (F0 m 0 ls [])) : ar_M l y ws rm av P v := by
  refine vx_ofWH (cc := cc) (maxL := maxL) (ret := ret) (hh := hh) hy hw ?_
  intro p e s m args below meth c s₁ B hml hv
  obtain ⟨rfl, hP⟩ := hv
  have hown : s.vm.findClass y.cls = some m.cls := findClass_of_methodNamed B.named
  rw [ho] at hown
  rw [lg_entry_eq]
  exact body p e s m below meth c _ ⟨B.exec, B.bytes, hml, B.returns, atoms_spec (ws := ws) B.pre, hown, B.notSynchronized⟩ hP (lv_entry av hlen)
theorem ar_iret {v v9 : Int} (hx : p.tables.exec = Jvm.exec) (hb : c.code = cc) (hr : meth.sig.returnType = some .int) (hlocks : meth.locks = false) (d : decode cc pc = .ok (.ireturn, 1)) (h : v9 = v) : W p l e R s m args below meth c s.heap [] 0 0 (vx_MQ below (pu_Q v) (fun _ _ _ => False) args s 0 0 (fun _ => False)) (F0 m pc ls [.int (iI v9)]) := by
  subst h
  exact vx_ret (W.iret hx hb hr (fun t ht _ => ⟨rfl, ht⟩) (fun _ h => by cases h) d hlocks)
theorem nw_callS {ov : Option Value} {P2 : Heap → Prop} {A A0 : Nat → Prop} {H0 : Heap} {mc ms : Nat} (hm : mvb P) (S : CallFix p m c cc nL s args Ts own) (hM : nw_M l y ws rm As P ov P2 A mc ms) (cw : CallB R s args own index y bytes maxL ret ws rm mc ms n ∧ (Cond.static y).before args s = true) (hP : P s H)
    (hst : st0 = As.reverse ++ rest) (hn : As.length = n) (hsz : ls.size = nL) (hW : (rest.map fun v => v.category).sum ≤ 8) (d : decode cc pc = .ok (.invokestatic index, 3)) (hf : cells + mc ≤ R.cells ∧ slots + ms ≤ R.slots)
    (hS : va_S A0 H0 H locs) (hA : ∀ q, A q → A0 q)
    (kk : ∀ (H1 : Heap) (locs1 : List Loc), P2 H1 → H.size ≤ H1.size → (∀ q : Nat, q < H.size → ¬ A q → H1[q]? = H[q]?) → va_S A0 H0 H1 locs1 → W p l e R s m args below meth c H1 locs1 (cells + mc) (slots + ms) Q (F0 m (pc + 3) ls (ov.toList ++ rest))) : W p l e R s m args below meth c H locs cells slots Q (F0 m pc ls st0) := by
  intro T hT X
  obtain ⟨v9, st₀, t, T', L, h0, X', hL, e1, e2, ⟨hv, hp2, hz, hk⟩, st⟩ := (va_runS S hM cw ⟨blind_of hm _, fun U hU hw => ⟨rfl, by show P U U.heap; rw [hU]; exact hm s U H hw hP⟩⟩ (g := F0 m pc ls st0) rfl hn hsz hst (lv_room hW) d hf) T hT X
  cases hv
  rw [h0] at hz hk
  obtain ⟨t2, a1, b1⟩ := kk T'.heap (locs ++ L) (by rw [e1]; exact hp2) (by rw [e1]; exact hz) (by rw [e1]; exact hk)
    ⟨Nat.le_trans hS.1 (by rw [e1]; exact hz), fun q h1 h2 => by rw [e1, hk q (Nat.lt_of_lt_of_le h1 hS.1) (fun z => h2 (hA q z))]; exact hS.2.1 q h1 h2, fun q hq => by
      rcases List.mem_append.mp hq with h | h
      · exact hS.2.2 q h
      · exact hA _ (hL q h)⟩ T' rfl X'
  exact ⟨t2, st t2 a1, b1⟩
theorem nw_of {ov : Option Value} {P2 : Heap → Prop} {A : Nat → Prop} {mc ms : Nat} {av : List Value} (hy : plainName y.cls = true) (hw : ws = Cond.code y cc maxL ret :: ws') (ho : y.cls = own) (hlen : (lg_sl av).length ≤ maxL)
    (body : ∀ (p : Program) (e : Env) (s : State) (m : MethodId) (below : List Frame) (meth : Method) (c : Code) (ls : Array Slot), bd_At p s m av.toArray meth c cc maxL ret ws own → P s s.heap → lv_has ls maxL (lv_args 0 av) → va_S A s.heap s.heap [] →
      W p l e rm s m av.toArray below meth c s.heap [] 0 0 (MQ below (mu_Q ov P2 A) av.toArray s mc ms A) (F0 m 0 ls [])) : nw_M l y ws rm av P ov P2 A mc ms := by
  refine Met.ofW (cc := cc) (maxL := maxL) (ret := ret) hy hw ?_
  intro p e s m args below meth c s₁ B hml hv
  obtain ⟨rfl, hP⟩ := hv
  have hown : s.vm.findClass y.cls = some m.cls := findClass_of_methodNamed B.named
  rw [ho] at hown
  rw [lg_entry_eq]
  exact body p e s m below meth c _ ⟨B.exec, B.bytes, hml, B.returns, atoms_spec (ws := ws) B.pre, hown, B.notSynchronized⟩ hP (lv_entry av hlen) va_S.rf
theorem nw_zret {v v9 : Int} {P2 : Heap → Prop} {A : Nat → Prop} (hx : p.tables.exec = Jvm.exec) (hb : c.code = cc) (hr : meth.sig.returnType = some .boolean) (hlocks : meth.locks = false) (hS : va_S A s.heap H locs) (d : decode cc pc = .ok (.ireturn, 1)) (h : v9 = v) (hz9 : v = 0 ∨ v = 1) (h2 : P2 H) : W p l e R s m args below meth c H locs cells slots (MQ below (mu_Q (some (.int (iI v))) P2 A) args s cells slots A) (F0 m pc ls [.int (iI v9)]) := by
  subst h
  exact W.zret (ty := .boolean) hx hb hr (by rcases hz9 with rfl | rfl <;> decide +kernel) (fun t ht _ => ⟨rfl, by rw [ht]; exact h2, hS.F ht⟩) hS.2.2 d hlocks
theorem pv_irem (hx : p.tables.exec = Jvm.exec) (hb : c.code = cc) {a b : Int} (d : decode cc pc = .ok (.irem, 1)) (ha : 0 ≤ a ∧ a ≤ 2147483647) (hb9 : 0 < b ∧ b ≤ 2147483647) (k : W p l e R s m args below meth c H locs cells slots Q (F0 m (pc + 1) ls (.int (iI (a % b)) :: rest))) : W p l e R s m args below meth c H locs cells slots Q (F0 m pc ls (.int (iI b) :: .int (iI a) :: rest)) := by
  refine lv_irem hx hb d (fun h => ?_) ?_
  · have := (iI_eq (a := b) (b := 0) (by omega) (by omega)).mp (h.trans iI_0.symm)
    omega
  · rw [iI_rem ha hb9]
    exact k
theorem pv_nesame (hx : p.tables.exec = Jvm.exec) (hb : c.code = cc) {x y : Int} {off : Int} {tgt : Nat} (d : decode cc pc = .ok (.if_icmp .ne off, 3)) (ht : (pc : Int) + off = (tgt : Int)) (e9 : x = y) (kf : W p l e R s m args below meth c H locs cells slots Q (F0 m (pc + 3) ls rest)) : W p l e R s m args below meth c H locs cells slots Q (F0 m pc ls (.int (iI y) :: .int (iI x) :: rest)) := by
  subst e9
  exact lv_icmp_ne hx hb d ht (fun h => absurd rfl h) (fun _ => kf)
theorem pv_ast1 {D : va_G} {cI : ClassId} {o N : Nat} {f : Nat → Int32} {A : Nat → Prop} {H0 : Heap} (hx : p.tables.exec = Jvm.exec) (hb : c.code = cc) (hK : va_K D vwCl [(cI, .int)] s) (hO : GP D cI o N f H) (hS : va_S A H0 H locs) (hAo : A o) {i v : Int} (hi : 0 ≤ i ∧ i < N) (hn : N ≤ 2147483647) (d : decode cc pc = .ok (.iastore, 1))
    (kk : ∀ (H1 : Heap) (locs1 : List Loc), GP D cI o N (upd f i.toNat (iI v)) H1 → H1.size = H.size → (∀ q : Nat, q < H.size → ¬ q = o → H1[q]? = H[q]?) → va_S A H0 H1 locs1 → W p l e R s m args below meth c H1 locs1 cells slots Q (F0 m (pc + 1) ls rest)) : W p l e R s m args below meth c H locs cells slots Q (F0 m pc ls (.int (iI v) :: .int (iI i) :: .ref o :: rest)) := by
  have hin : vp_in (iI i) N := iI_in hi hn
  have hP : va_P D vwCl [(o, .inl (cI, N, .inl f))] H := hO
  refine W.iast hx hb (hP 0 _ rfl) ((hK.2 0 _ rfl).1 N (fun j => .int (f j))) (fun q => by cases q) (by show ¬ (iI i < 0 ∨ (arrV _ _ _).slots.size ≤ _); rw [arrV_size]; exact hin) rfl rfl d fun H1 e z oq => ?_
  have e0 : (iI i).toNatClampNeg = i.toNat := iI_N ⟨hi.1, by omega⟩
  refine kk H1 _ (fun k q hq => ?_) z (fun q _ h => oq q h) (hS.put z oq hAo)
  match k, hq with
  | k + 1, hq => simp at hq
  | 0, hq =>
    cases hq
    show H1[o]? = some (vp_cell _ _)
    rw [e, e0]
    rw [vp_cell_i, vp_cell_i, arrV_store]
    congr 2
    funext q
    by_cases hq : q = i.toNat
    · subst hq
      simp [updV, upd]
    · simp [updV, upd, hq]
theorem pv_ald1 {D : va_G} {cI : ClassId} {o N : Nat} {f : Nat → Int32} (hx : p.tables.exec = Jvm.exec) (hb : c.code = cc) (hK : va_K D vwCl [(cI, .int)] s) (hO : GP D cI o N f H) {i v : Int} (hi : 0 ≤ i ∧ i < N) (hn : N ≤ 2147483647) (hv : f i.toNat = iI v) (d : decode cc pc = .ok (.iaload, 1))
    (kk : W p l e R s m args below meth c H locs cells slots Q (F0 m (pc + 1) ls (.int (iI v) :: rest))) : W p l e R s m args below meth c H locs cells slots Q (F0 m pc ls (.int (iI i) :: .ref o :: rest)) :=
  pv_iald hx hb hK (show va_P D vwCl [(o, .inl (cI, N, .inl f))] H from hO) 0 0 rfl rfl hi hn hv d kk
end WR1
