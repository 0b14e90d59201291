/-! the law's helpers: a call that puts its answer into the row 'out', or tells which exception came -/
def OC (D : va_G) (cJ : ClassId) (o : Nat) (lf : Nat → Int64) (H : Heap) : Prop := va_P D vwCl [(o, .inl (cJ, 1, .inr (.inl lf)))] H
theorem OC_fr {D : va_G} {cJ : ClassId} {o : Nat} {lf : Nat → Int64} {H H1 : Heap} {A : Nat → Prop} (h : OC D cJ o lf H) (hk : ∀ q : Nat, q < H.size → ¬ A q → H1[q]? = H[q]?) (hA : ¬ A o) : OC D cJ o lf H1 := by
  refine va_P.kept h (fun k q hq => ?_)
  have h1 := (h k q hq).lt
  match k, hq with
  | 0, hq => cases hq; exact hk _ h1 hA
  | k + 1, hq => simp at hq
theorem CW_fr {D : va_G} {cI : ClassId} {base x0 x1 x2 x5 x6 x7 : Nat} {n came MV : Int} {F G SP RF RC : Int → Int} {H H1 : Heap} {A : Nat → Prop} (h : CW D cI base x0 x1 x2 x5 x6 x7 n came MV F G SP RF RC H) (hk : ∀ q : Nat, q < H.size → ¬ A q → H1[q]? = H[q]?) (hA : ∀ q, mC x0 x1 x2 x5 x6 x7 q → ¬ A q) : CW D cI base x0 x1 x2 x5 x6 x7 n came MV F G SP RF RC H1 := by
  obtain ⟨f, g, sp, rf, rc, a1, a2, a3, a4, a5, hP, hD⟩ := h
  exact ⟨f, g, sp, rf, rc, a1, a2, a3, a4, a5, hP.kept (fun k q hq => hk q.1 (hP k q hq).lt (hA q.1 ((CW_mD hD).2 k q hq))), hD⟩
theorem MA_fr {D : va_G} {cI cZ : ClassId} {base y0 y1 y2 y3 y6 y7 y8 : Nat} {n came MV th : Int} {F Gp SP RF RC : Int → Int} {H H1 : Heap} {A : Nat → Prop} (h : MA D cI cZ base y0 y1 y2 y3 y6 y7 y8 n came MV th F Gp SP RF RC H) (hk : ∀ q : Nat, q < H.size → ¬ A q → H1[q]? = H[q]?) (hA : ∀ q, mM y0 y1 y2 y3 y6 y7 y8 q → ¬ A q) : MA D cI cZ base y0 y1 y2 y3 y6 y7 y8 n came MV th F Gp SP RF RC H1 := by
  obtain ⟨G, ZN, b1, b2, f, g, z, sp, rf, rc, a1, a2, a3, a4, a5, a6, hP, hD⟩ := h
  exact ⟨G, ZN, b1, b2, f, g, z, sp, rf, rc, a1, a2, a3, a4, a5, a6, hP.kept (fun k q hq => hk q.1 (hP k q hq).lt (hA q.1 ((MW_mD hD).2 k q hq))), hD⟩
theorem CW_b {D : va_G} {cI : ClassId} {base x0 x1 x2 x5 x6 x7 : Nat} {n came MV : Int} {F G SP RF RC : Int → Int} {H : Heap} (h : CW D cI base x0 x1 x2 x5 x6 x7 n came MV F G SP RF RC H) : ∀ q, mC x0 x1 x2 x5 x6 x7 q → base ≤ q := by
  obtain ⟨f, g, sp, rf, rc, -, -, -, -, -, hP, hD⟩ := h
  exact mC_b hD
theorem MA_b {D : va_G} {cI cZ : ClassId} {base y0 y1 y2 y3 y6 y7 y8 : Nat} {n came MV th : Int} {F Gp SP RF RC : Int → Int} {H : Heap} (h : MA D cI cZ base y0 y1 y2 y3 y6 y7 y8 n came MV th F Gp SP RF RC H) : ∀ q, mM y0 y1 y2 y3 y6 y7 y8 q → base ≤ q := by
  obtain ⟨G, ZN, b1, b2, f, g, z, sp, rf, rc, -, -, -, -, -, -, hP, hD⟩ := h
  exact mM_b hD
/-- which cells a call with 'out' may change -/
def mO (x0 x1 x2 x5 x6 x7 o : Nat) : Nat → Prop := fun q => mC x0 x1 x2 x5 x6 x7 q ∨ q = o
def WP (D : va_G) (cI cZ cJ : ClassId) (base st : Nat) (Z : Nat → Nat) (x0 x1 x2 x5 x6 x7 o : Nat) (n came MV : Int) (F G SP RF RC : Int → Int) : State → Heap → Prop := fun U H => CP D cI cZ base st Z x0 x1 x2 x5 x6 x7 n came MV F G SP RF RC U H ∧ va_K D vwCl [(cJ, .long)] U ∧ (∃ lf, OC D cJ o lf H) ∧ ¬ mC x0 x1 x2 x5 x6 x7 o ∧ va_Nc "java/lang/IllegalStateException" "java/lang/IndexOutOfBoundsException" U ∧ va_Nc "java/lang/IllegalArgumentException" "java/lang/IndexOutOfBoundsException" U
theorem WP_mv {D : va_G} {cI cZ cJ : ClassId} {base st : Nat} {Z : Nat → Nat} {x0 x1 x2 x5 x6 x7 o : Nat} {n came MV : Int} {F G SP RF RC : Int → Int} : mvb (WP D cI cZ cJ base st Z x0 x1 x2 x5 x6 x7 o n came MV F G SP RF RC) := fun _ _ _ hW h => ⟨CP_mv _ _ _ hW h.1, va_K.moved hW.alike h.2.1, h.2.2.1, h.2.2.2.1, va_Nc.moved hW.alike h.2.2.2.2.1, va_Nc.moved hW.alike h.2.2.2.2.2⟩
def wr_M (l : Launch) (y : MethodName) (ws : List Cond) (rm : Room) (av : List Value) (P : State → Heap → Prop) (v : Int) (P2 : Heap → Prop) (A : Nat → Prop) (mc ms : Nat) : Prop := vx_Met l y ws rm (va_Pc av (fun U => P U U.heap)) (mu_Q (some (.int (iI v))) P2 A) (fun _ _ _ => False) mc ms A
section WR1
variable {p : Program} {l : Launch} {e : Env} {R : Room} {s : State} {m : MethodId} {args : Array Value} {below : List Frame} {meth : Method} {c : Code} {H : Heap} {locs : List Loc} {cells slots : Nat} {Q : State → Prop}
variable {y : MethodName} {bytes cc : ByteArray} {maxL nL n index : Nat} {ret : Option FieldType} {ws ws' : List Cond} {rm : Room} {P : State → Heap → Prop} {Ts : List Cond} {own : String} {As rest st0 : List Value} {pc : Nat} {ls : Array Slot} {hh : List (Nat × Nat × Nat × Nat)}
theorem wr_call {v : Int} {P2 : Heap → Prop} {A A0 : Nat → Prop} {H0 : Heap} {mc ms : Nat} (hm : mvb P) (S : CallFix p m c cc nL s args Ts own) (hM : wr_M l y ws rm As P v P2 A mc ms) (cw : vx_CSW R s args own index y bytes maxL ret hh ws rm mc ms n) (hP : P s H)
    (hst : st0 = As.reverse ++ rest) (hn : As.length = n) (hsz : ls.size = nL) (hW : (rest.map fun v => v.category).sum ≤ 8) (d : decode cc pc = .ok (.invokestatic index, 3)) (hf : cells + mc ≤ R.cells ∧ slots + ms ≤ R.slots)
    (hS : va_S A0 H0 H locs) (hA : ∀ q, A q → A0 q)
    (kk : ∀ (H1 : Heap) (locs1 : List Loc), P2 H1 → H.size ≤ H1.size → (∀ q : Nat, q < H.size → ¬ A q → H1[q]? = H[q]?) → va_S A0 H0 H1 locs1 → W p l e R s m args below meth c H1 locs1 (cells + mc) (slots + ms) Q (F0 m (pc + 3) ls (.int (iI v) :: rest))) : W p l e R s m args below meth c H locs cells slots Q (F0 m pc ls st0) := by
  intro T hT X
  rcases (vx_runSX S hM cw ⟨blind_of hm _, fun U hU hw => ⟨rfl, by show P U U.heap; rw [hU]; exact hm s U H hw hP⟩⟩ (g := F0 m pc ls st0) rfl hn hsz hst (lv_room hW) d hf) T hT X with ⟨v9, st₀, t, T', L, h0, X', hL, e1, e2, ⟨hv, hp2, hz, hk⟩, st⟩ | ⟨q, st₀, t, T', L, E2, ce, h0, X', hL, e1, e2, hF, hce, hcv, hcl, st⟩
  · cases hv
    rw [h0] at hz hk
    obtain ⟨t2, a1, b1⟩ := kk T'.heap (locs ++ L) (by rw [e1]; exact hp2) (by rw [e1]; exact hz) (by rw [e1]; exact hk)
      ⟨Nat.le_trans hS.1 (by rw [e1]; exact hz), fun q h1 h2 => by rw [e1, hk q (Nat.lt_of_lt_of_le h1 hS.1) (fun z => h2 (hA q z))]; exact hS.2.1 q h1 h2, fun q hq => by
        rcases List.mem_append.mp hq with h | h
        · exact hS.2.2 q h
        · exact hA _ (hL q h)⟩ T' rfl X'
    exact ⟨t2, st t2 a1, b1⟩
  · exact hF.elim
theorem wr_of {v : Int} {P2 : Heap → Prop} {A : Nat → Prop} {mc ms : Nat} {av : List Value} (hy : plainName y.cls = true) (hw : ws = Cond.codeWith y cc maxL ret hh :: ws') (ho : y.cls = own) (hlen : (lg_sl av).length ≤ maxL)
    (body : ∀ (p : Program) (e : Env) (s : State) (m : MethodId) (below : List Frame) (meth : Method) (c : Code) (ls : Array Slot), bd_At p s m av.toArray meth c cc maxL ret ws own → c.exceptionTable.toList = tableOf hh → P s s.heap → lv_has ls maxL (lv_args 0 av) → va_S A s.heap s.heap [] →
      W p l e rm s m av.toArray below meth c s.heap [] 0 0 (vx_MQ below (mu_Q (some (.int (iI v))) P2 A) (fun _ _ _ => False) av.toArray s mc ms A) (F0 m 0 ls [])) : wr_M l y ws rm av P v P2 A mc ms := by
  refine vx_ofWH (cc := cc) (maxL := maxL) (ret := ret) (hh := hh) hy hw ?_
  intro p e s m args below meth c s₁ B hml hv
  obtain ⟨rfl, hP⟩ := hv
  have hown : s.vm.findClass y.cls = some m.cls := findClass_of_methodNamed B.named
  rw [ho] at hown
  rw [lg_entry_eq]
  have hts := atoms_spec (ws := ws) B.pre
  exact body p e s m below meth c _ ⟨B.exec, B.bytes, hml, B.returns, hts, hown, B.notSynchronized⟩ (vx_table (x := y) B (hts _ (by rw [hw]; exact List.mem_cons_self))) hP (lv_entry av hlen) va_S.rf
theorem wr_iret {v v9 : Int} {P2 : Heap → Prop} {A : Nat → Prop} (hx : p.tables.exec = Jvm.exec) (hb : c.code = cc) (hr : meth.sig.returnType = some .int) (hlocks : meth.locks = false) (hS : va_S A s.heap H locs) (d : decode cc pc = .ok (.ireturn, 1)) (h : v9 = v) (h2 : P2 H) : W p l e R s m args below meth c H locs cells slots (vx_MQ below (mu_Q (some (.int (iI v))) P2 A) (fun _ _ _ => False) args s cells slots A) (F0 m pc ls [.int (iI v9)]) := by
  subst h
  exact vx_ret (W.iret hx hb hr (fun t ht _ => ⟨rfl, by rw [ht]; exact h2, hS.F ht⟩) hS.2.2 d hlocks)
theorem pv_last {D : va_G} {cJ : ClassId} {o : Nat} {lf : Nat → Int64} {A : Nat → Prop} {H0 : Heap} {v : Int64} (hx : p.tables.exec = Jvm.exec) (hb : c.code = cc) (hK : va_K D vwCl [(cJ, .long)] s) (hO : OC D cJ o lf H) (hS : va_S A H0 H locs) (hAo : A o) (d : decode cc pc = .ok (.lastore, 1))
    (kk : ∀ (H1 : Heap) (locs1 : List Loc) (lf2 : Nat → Int64), lf2 0 = v → OC D cJ o lf2 H1 → H1.size = H.size → (∀ q : Nat, q ≠ o → H1[q]? = H[q]?) → va_S A H0 H1 locs1 → W p l e R s m args below meth c H1 locs1 cells slots Q (F0 m (pc + 1) ls rest)) : W p l e R s m args below meth c H locs cells slots Q (F0 m pc ls (.long v :: .int (iI 0) :: .ref o :: rest)) := by
  have hin : vp_in (iI 0) 1 := iI_in (n := 1) ⟨by omega, by omega⟩ (by omega)
  have hP : va_P D vwCl [(o, .inl (cJ, 1, .inr (.inl lf)))] H := hO
  refine W.last hx hb (hP 0 _ rfl) ((hK.2 0 _ rfl).1 1 (fun j => .long (lf j))) (fun q => by cases q) (by show ¬ (iI 0 < 0 ∨ (arrV _ _ _).slots.size ≤ _); rw [arrV_size]; exact hin) rfl rfl d fun H1 e z oq => ?_
  have e0 : (iI 0).toNatClampNeg = 0 := iI_N ⟨by omega, by omega⟩
  refine kk H1 _ (vp_updL lf 0 v) (by simp [vp_updL]) (fun k q hq => ?_) z oq (hS.put z oq hAo)
  match k, hq with
  | k + 1, hq => simp at hq
  | 0, hq =>
    cases hq
    show H1[o]? = some (vp_cell _ _)
    rw [e, e0]
    rw [vp_cell_l, vp_cell_l, arrV_store]
    congr 2
    funext q
    by_cases hq : q = 0
    · subst hq
      simp [updV, vp_updL]
    · simp [updV, vp_updL, hq]
theorem pv_lald {D : va_G} {cJ : ClassId} {o : Nat} {lf : Nat → Int64} {v : Int64} (hx : p.tables.exec = Jvm.exec) (hb : c.code = cc) (hK : va_K D vwCl [(cJ, .long)] s) (hO : OC D cJ o lf H) (hv : lf 0 = v) (d : decode cc pc = .ok (.laload, 1))
    (kk : W p l e R s m args below meth c H locs cells slots Q (F0 m (pc + 1) ls (.long v :: rest))) : W p l e R s m args below meth c H locs cells slots Q (F0 m pc ls (.int (iI 0) :: .ref o :: rest)) := by
  have hin : vp_in (iI 0) 1 := iI_in (n := 1) ⟨by omega, by omega⟩ (by omega)
  have hP : va_P D vwCl [(o, .inl (cJ, 1, .inr (.inl lf)))] H := hO
  refine va_lald hx hb hK hP 0 0 rfl rfl hin d ?_
  rw [show (iI 0).toNatClampNeg = 0 from iI_N ⟨by omega, by omega⟩, hv]
  exact kk
end WR1
