section
-- ===== PART A: goes FIRST, ahead of the names: the tables' words, and 'selects' of the private methods out of them =====
/-- a private method of a class that the tables say can be made, by its rows of tables_1 -/
def lw_okq (q : MethodName × Nat) : Prop := (q.1.cls ≠ "java/lang/invoke/MethodHandle" ∧ q.1.cls ≠ "java/lang/invoke/VarHandle") ∧ Cond.instantiable q.1.cls q.2 ∈ tables_1 ∧ Cond.privateMethod q.1 ∈ tables_1 ∧ Cond.instanceMethod q.1 ∈ tables_1
theorem lw_p0 : lw_okq (⟨"ShelfMarks", "requireThatOneMayCome", "()V"⟩, 8) := ⟨⟨by decide +kernel, by decide +kernel⟩, List.mem_of_getElem? (i := 10) (by decide +kernel), List.mem_of_getElem? (i := 68) (by decide +kernel), List.mem_of_getElem? (i := 69) (by decide +kernel)⟩
theorem lw_p1 : lw_okq (⟨"java/lang/Throwable", "fillInStackTrace", "(I)Ljava/lang/Throwable;"⟩, 6) := ⟨⟨by decide +kernel, by decide +kernel⟩, List.mem_of_getElem? (i := 110) (by decide +kernel), List.mem_of_getElem? (i := 108) (by decide +kernel), List.mem_of_getElem? (i := 109) (by decide +kernel)⟩
theorem lw_p2 : lw_okq (⟨"ShelfMarks", "nextNumber", "()I"⟩, 8) := ⟨⟨by decide +kernel, by decide +kernel⟩, List.mem_of_getElem? (i := 10) (by decide +kernel), List.mem_of_getElem? (i := 140) (by decide +kernel), List.mem_of_getElem? (i := 141) (by decide +kernel)⟩
theorem lw_p3 : lw_okq (⟨"ShelfMarks", "putIn", "(II)V"⟩, 8) := ⟨⟨by decide +kernel, by decide +kernel⟩, List.mem_of_getElem? (i := 10) (by decide +kernel), List.mem_of_getElem? (i := 144) (by decide +kernel), List.mem_of_getElem? (i := 145) (by decide +kernel)⟩
theorem lw_p4 : lw_okq (⟨"ShelfMarks", "movesByPuttingIn", "(I)I"⟩, 8) := ⟨⟨by decide +kernel, by decide +kernel⟩, List.mem_of_getElem? (i := 10) (by decide +kernel), List.mem_of_getElem? (i := 148) (by decide +kernel), List.mem_of_getElem? (i := 149) (by decide +kernel)⟩
theorem lw_p5 : lw_okq (⟨"ShelfMarks", "hasFreeMark", "(I)Z"⟩, 8) := ⟨⟨by decide +kernel, by decide +kernel⟩, List.mem_of_getElem? (i := 10) (by decide +kernel), List.mem_of_getElem? (i := 152) (by decide +kernel), List.mem_of_getElem? (i := 153) (by decide +kernel)⟩
theorem lw_p6 : lw_okq (⟨"ShelfMarks", "markAt", "(I)I"⟩, 8) := ⟨⟨by decide +kernel, by decide +kernel⟩, List.mem_of_getElem? (i := 10) (by decide +kernel), List.mem_of_getElem? (i := 156) (by decide +kernel), List.mem_of_getElem? (i := 157) (by decide +kernel)⟩
theorem lw_p7 : lw_okq (⟨"ShelfMarks", "isPlace", "(I)Z"⟩, 8) := ⟨⟨by decide +kernel, by decide +kernel⟩, List.mem_of_getElem? (i := 10) (by decide +kernel), List.mem_of_getElem? (i := 160) (by decide +kernel), List.mem_of_getElem? (i := 161) (by decide +kernel)⟩
theorem lw_p8 : lw_okq (⟨"ShelfMarks", "levelToSpread", "(I)I"⟩, 8) := ⟨⟨by decide +kernel, by decide +kernel⟩, List.mem_of_getElem? (i := 10) (by decide +kernel), List.mem_of_getElem? (i := 164) (by decide +kernel), List.mem_of_getElem? (i := 165) (by decide +kernel)⟩
theorem lw_p9 : lw_okq (⟨"ShelfMarks", "shelfToSpread", "(II)I"⟩, 8) := ⟨⟨by decide +kernel, by decide +kernel⟩, List.mem_of_getElem? (i := 10) (by decide +kernel), List.mem_of_getElem? (i := 168) (by decide +kernel), List.mem_of_getElem? (i := 169) (by decide +kernel)⟩
theorem lw_p10 : lw_okq (⟨"ShelfMarks", "isLoaded", "(II)Z"⟩, 8) := ⟨⟨by decide +kernel, by decide +kernel⟩, List.mem_of_getElem? (i := 10) (by decide +kernel), List.mem_of_getElem? (i := 175) (by decide +kernel), List.mem_of_getElem? (i := 176) (by decide +kernel)⟩
theorem lw_p11 : lw_okq (⟨"ShelfMarks", "foldersOn", "(II)I"⟩, 8) := ⟨⟨by decide +kernel, by decide +kernel⟩, List.mem_of_getElem? (i := 10) (by decide +kernel), List.mem_of_getElem? (i := 179) (by decide +kernel), List.mem_of_getElem? (i := 180) (by decide +kernel)⟩
theorem lw_p12 : lw_okq (⟨"ShelfMarks", "marksBelow", "(I)I"⟩, 8) := ⟨⟨by decide +kernel, by decide +kernel⟩, List.mem_of_getElem? (i := 10) (by decide +kernel), List.mem_of_getElem? (i := 186) (by decide +kernel), List.mem_of_getElem? (i := 187) (by decide +kernel)⟩
theorem lw_p13 : lw_okq (⟨"ShelfMarks", "insertAt", "(III)V"⟩, 8) := ⟨⟨by decide +kernel, by decide +kernel⟩, List.mem_of_getElem? (i := 10) (by decide +kernel), List.mem_of_getElem? (i := 196) (by decide +kernel), List.mem_of_getElem? (i := 197) (by decide +kernel)⟩
theorem lw_p14 : lw_okq (⟨"ShelfMarks", "folderAt", "(I)I"⟩, 8) := ⟨⟨by decide +kernel, by decide +kernel⟩, List.mem_of_getElem? (i := 10) (by decide +kernel), List.mem_of_getElem? (i := 200) (by decide +kernel), List.mem_of_getElem? (i := 201) (by decide +kernel)⟩
theorem lw_p15 : lw_okq (⟨"ShelfMarks", "set", "(III)V"⟩, 8) := ⟨⟨by decide +kernel, by decide +kernel⟩, List.mem_of_getElem? (i := 10) (by decide +kernel), List.mem_of_getElem? (i := 204) (by decide +kernel), List.mem_of_getElem? (i := 205) (by decide +kernel)⟩
def lw_privs_1 : List (MethodName × Nat) := [(⟨"ShelfMarks", "requireThatOneMayCome", "()V"⟩, 8), (⟨"java/lang/Throwable", "fillInStackTrace", "(I)Ljava/lang/Throwable;"⟩, 6), (⟨"ShelfMarks", "nextNumber", "()I"⟩, 8), (⟨"ShelfMarks", "putIn", "(II)V"⟩, 8), (⟨"ShelfMarks", "movesByPuttingIn", "(I)I"⟩, 8), (⟨"ShelfMarks", "hasFreeMark", "(I)Z"⟩, 8), (⟨"ShelfMarks", "markAt", "(I)I"⟩, 8), (⟨"ShelfMarks", "isPlace", "(I)Z"⟩, 8), (⟨"ShelfMarks", "levelToSpread", "(I)I"⟩, 8), (⟨"ShelfMarks", "shelfToSpread", "(II)I"⟩, 8), (⟨"ShelfMarks", "isLoaded", "(II)Z"⟩, 8), (⟨"ShelfMarks", "foldersOn", "(II)I"⟩, 8), (⟨"ShelfMarks", "marksBelow", "(I)I"⟩, 8), (⟨"ShelfMarks", "insertAt", "(III)V"⟩, 8), (⟨"ShelfMarks", "folderAt", "(I)I"⟩, 8), (⟨"ShelfMarks", "set", "(III)V"⟩, 8)]
theorem lw_r1 : ∀ q ∈ lw_privs_1, lw_okq q := List.forall_mem_cons.mpr ⟨lw_p0, List.forall_mem_cons.mpr ⟨lw_p1, List.forall_mem_cons.mpr ⟨lw_p2, List.forall_mem_cons.mpr ⟨lw_p3, List.forall_mem_cons.mpr ⟨lw_p4, List.forall_mem_cons.mpr ⟨lw_p5, List.forall_mem_cons.mpr ⟨lw_p6, List.forall_mem_cons.mpr ⟨lw_p7, List.forall_mem_cons.mpr ⟨lw_p8, List.forall_mem_cons.mpr ⟨lw_p9, List.forall_mem_cons.mpr ⟨lw_p10, List.forall_mem_cons.mpr ⟨lw_p11, List.forall_mem_cons.mpr ⟨lw_p12, List.forall_mem_cons.mpr ⟨lw_p13, List.forall_mem_cons.mpr ⟨lw_p14, List.forall_mem_cons.mpr ⟨lw_p15, fun _ h => absurd h List.not_mem_nil⟩⟩⟩⟩⟩⟩⟩⟩⟩⟩⟩⟩⟩⟩⟩⟩
theorem lw_p16 : lw_okq (⟨"ShelfMarks", "spreadOut", "(II)V"⟩, 8) := ⟨⟨by decide +kernel, by decide +kernel⟩, List.mem_of_getElem? (i := 10) (by decide +kernel), List.mem_of_getElem? (i := 208) (by decide +kernel), List.mem_of_getElem? (i := 209) (by decide +kernel)⟩
theorem lw_p17 : lw_okq (⟨"ShelfMarks", "countSpread", "(I)V"⟩, 8) := ⟨⟨by decide +kernel, by decide +kernel⟩, List.mem_of_getElem? (i := 10) (by decide +kernel), List.mem_of_getElem? (i := 212) (by decide +kernel), List.mem_of_getElem? (i := 213) (by decide +kernel)⟩
theorem lw_p18 : lw_okq (⟨"ShelfMarks", "requirePlace", "(I)I"⟩, 8) := ⟨⟨by decide +kernel, by decide +kernel⟩, List.mem_of_getElem? (i := 10) (by decide +kernel), List.mem_of_getElem? (i := 220) (by decide +kernel), List.mem_of_getElem? (i := 221) (by decide +kernel)⟩
theorem lw_p19 : lw_okq (⟨"ShelfMarks", "placeOf", "(I)I"⟩, 8) := ⟨⟨by decide +kernel, by decide +kernel⟩, List.mem_of_getElem? (i := 10) (by decide +kernel), List.mem_of_getElem? (i := 224) (by decide +kernel), List.mem_of_getElem? (i := 225) (by decide +kernel)⟩
theorem lw_p20 : lw_okq (⟨"ShelfMarks", "sendReadersOn", "(II)V"⟩, 8) := ⟨⟨by decide +kernel, by decide +kernel⟩, List.mem_of_getElem? (i := 10) (by decide +kernel), List.mem_of_getElem? (i := 248) (by decide +kernel), List.mem_of_getElem? (i := 249) (by decide +kernel)⟩
theorem lw_p21 : lw_okq (⟨"ShelfMarks", "removeAt", "(I)V"⟩, 8) := ⟨⟨by decide +kernel, by decide +kernel⟩, List.mem_of_getElem? (i := 10) (by decide +kernel), List.mem_of_getElem? (i := 252) (by decide +kernel), List.mem_of_getElem? (i := 253) (by decide +kernel)⟩
theorem lw_p22 : lw_okq (⟨"ShelfMarks", "readersAt", "(I)I"⟩, 8) := ⟨⟨by decide +kernel, by decide +kernel⟩, List.mem_of_getElem? (i := 10) (by decide +kernel), List.mem_of_getElem? (i := 284) (by decide +kernel), List.mem_of_getElem? (i := 285) (by decide +kernel)⟩
def lw_privs_2 : List (MethodName × Nat) := [(⟨"ShelfMarks", "spreadOut", "(II)V"⟩, 8), (⟨"ShelfMarks", "countSpread", "(I)V"⟩, 8), (⟨"ShelfMarks", "requirePlace", "(I)I"⟩, 8), (⟨"ShelfMarks", "placeOf", "(I)I"⟩, 8), (⟨"ShelfMarks", "sendReadersOn", "(II)V"⟩, 8), (⟨"ShelfMarks", "removeAt", "(I)V"⟩, 8), (⟨"ShelfMarks", "readersAt", "(I)I"⟩, 8)]
theorem lw_r2 : ∀ q ∈ lw_privs_2, lw_okq q := List.forall_mem_cons.mpr ⟨lw_p16, List.forall_mem_cons.mpr ⟨lw_p17, List.forall_mem_cons.mpr ⟨lw_p18, List.forall_mem_cons.mpr ⟨lw_p19, List.forall_mem_cons.mpr ⟨lw_p20, List.forall_mem_cons.mpr ⟨lw_p21, List.forall_mem_cons.mpr ⟨lw_p22, fun _ h => absurd h List.not_mem_nil⟩⟩⟩⟩⟩⟩⟩
def lw_privs : List (MethodName × Nat) := lw_privs_1 ++ (lw_privs_2)
def lw_tbl : List Cond := k2_sels lw_privs ++ tables_1
theorem lw_privs_ok : ∀ q ∈ lw_privs, lw_okq q := by
  show ∀ q ∈ lw_privs_1 ++ (lw_privs_2), lw_okq q
  exact List.forall_mem_append.mpr ⟨lw_r1, lw_r2⟩
end
section
/-! ===== BEGIN words of one list among another's, by their places ===== -/
theorem goodIn_r {big : List Cond} (ws : List Cond) (ps : List Nat) (hp : ws = ps.filterMap (fun i => big[i]?)) (h : ws.all goodWord = true) : GoodIn big ws := by
  intro w hw
  have h1 := List.all_eq_true.mp h w hw
  rw [hp] at hw
  obtain ⟨i, -, hi⟩ := List.mem_filterMap.mp hw
  have hm : w ∈ big := by first | exact List.mem_of_getElem? hi | exact List.getElem?_mem hi
  exact ⟨hm, good_of_word h1⟩
theorem goodIn_app {big a b : List Cond} (ha : GoodIn big a) (hb : GoodIn big b) : GoodIn big (a ++ b) := fun w h => (List.mem_append.mp h).elim (ha w) (hb w)
theorem goodIn_ca {big a b : List Cond} {c : Cond} (ha : GoodIn big (c :: a)) (hb : GoodIn big b) : GoodIn big (c :: (a ++ b)) := fun w h => (List.mem_cons.mp h).elim (fun e => ha w (List.mem_cons.mpr (Or.inl e))) (fun h => (List.mem_append.mp h).elim (fun h => ha w (List.mem_cons.mpr (Or.inr h))) (hb w))
theorem goodIn_sub {big ws : List Cond} (hm : ∀ w ∈ ws, w ∈ big) (h : ws.all goodWord = true) : GoodIn big ws := fun w hw => ⟨hm w hw, good_of_word (List.all_eq_true.mp h w hw)⟩
/-! ===== END ===== -/

/-! ===== BEGIN exceptions that leave a method, and their catching by the caller (launches without stack traces) ===== -/
section VXA
/-! The laws vx_back, vx_callV, vx_callS, vx_callSW, vx_throw0, vx_throwS follow proofs of the library, with one case more: JvmDerived/Free/Laws.lean (Back.of_free), Shelf42/LK1.lean (callV, callS), Shelf/KitTraced.lean (throwNew0V, throwNewS). -/
/-- where a method has thrown q: the class by its name, the cell, what was written, the world -/
def vx_T (XC : String → State → State → Prop) (st : State) (q : Addr) (t : State) (mc ms : Nat) (free : Addr → Prop) : Prop :=
  ∃ (E : String) (ce : Cell) (L : List Loc), XC E st t ∧ t.heap[q]? = some ce ∧ ce.vm = .none ∧ st.vm.findClass E = some ce.cls ∧ st.WarmedH t.vm ∧ st.sameButNew ({ t with vm := st.vm } : State) L mc ms ∧ ∀ z ∈ L, free z.base
def vx_Q (Qc : Array Value → State → Outcome → State → Prop) (XC : String → State → State → Prop) (mc ms : Nat) (free : Addr → Prop) : Array Value → State → Outcome → State → Prop := fun a st o t =>
  (Qc a st o t ∧ ∃ L, FrameEnd st o t L mc ms ∧ ∀ q ∈ L, free q.base) ∨ ∃ q, o = .threw q ∧ vx_T XC st q t mc ms free
/-- a callee that returns or throws -/
def vx_Met (l : Launch) (y : MethodName) (ws : List Cond) (rm : Room) (Pc : Array Value → State → Prop) (Qc : Array Value → State → Outcome → State → Prop) (XC : String → State → State → Prop) (mc ms : Nat) (free : Addr → Prop) : Prop :=
  MetFree l y (headSpec ws rm) Pc (fun _ _ _ _ _ => True) (vx_Q Qc XC mc ms free)
def vx_Post (XC : String → State → State → Prop) (mc ms : Nat) (free : Addr → Prop) : Pt → Array Value → Addr → Pt → Prop := fun A a q B =>
  ∃ (g : JFrame) (mk : MethodId) (t : State) (L : List Loc) (E : String) (ce : Cell), B.U.heap = t.heap ∧ B.U.vm = t.vm ∧ XC E (A.U.calling g mk a) t ∧ t.heap[q]? = some ce ∧ ce.vm = .none ∧ A.U.vm.findClass E = some ce.cls ∧ B.locs = A.locs ++ L ∧ (∀ z ∈ L, free z.base) ∧ B.cells = A.cells + mc ∧ B.slots = A.slots + ms
def vx_Back (l : Launch) (R : Room) (p : Program) (e : Env) (below : List Frame) (s : State) (sargs : Array Value) (y : MethodName) (len W9 : Nat)
    (Pre : Pt → Array Value → Prop) (Post : Pt → Array Value → Option Value → Pt → Prop) (PostX : Pt → Array Value → Addr → Pt → Prop) : Prop :=
  ∀ (m : MethodId) (meth : Method) (c : Code) (A : Pt) (g : JFrame) (ig : Instr) (mk : MethodId) (a : Array Value),
    Stand p l e R s m sargs below meth c A.U A.locs A.cells A.slots → g.method = m → g.locals.size = c.maxLocals → decode c.code g.pc = .ok (ig, len) →
    2 * g.monitorRoom + (g.stack.map fun v => v.category).sum ≤ W9 → A.U.methodNamed? y = some mk → Pre A a →
    (∃ (v : Option Value) (B : Pt), Stand p l e R s m sargs below meth c B.U B.locs B.cells B.slots ∧ Post A a v B ∧
      Steps p.tables e below (doInvoke e (A.U.setTop g) [] mk a).1 (B.U.setTop { g with pc := g.pc + len, stack := v.toList ++ g.stack })) ∨
    (∃ (q : Addr) (B : Pt), Stand p l e R s m sargs below meth c B.U B.locs B.cells B.slots ∧ PostX A a q B ∧
      Steps p.tables e below (doInvoke e (A.U.setTop g) [] mk a).1 ((B.U.setTop g).pushFrame (.throwing q)))
section Payer
variable {l : Launch} {R : Room} {p : Program} {e : Env} {below : List Frame} {s : State} {sargs : Array Value} {y : MethodName} {len W9 : Nat}
theorem vx_back {ws : List Cond} {rm : Room} {Pc : Array Value → State → Prop} {Qc : Array Value → State → Outcome → State → Prop} {XC : String → State → State → Prop} {mc ms : Nat} {free : Addr → Prop} {bytes : ByteArray} {maxL : Nat} {ret : Option FieldType}
    (hM : vx_Met l y ws rm Pc Qc XC mc ms free) (hblind : FrameBlind Pc) (hrc : rm.cells = mc) (hrs : rm.slots = ms)
    (hframes : rm.frames + 1 ≤ R.frames) (hlocals : W9 + (maxL + 11) + rm.locals ≤ R.locals)
    (hws : ∀ w ∈ ws, ∀ a' U, s.WarmedH U.vm → w.before a' U = true) (hcode : Cond.code y bytes maxL ret ∈ ws) (hinit : ∀ a' U, s.WarmedH U.vm → (Cond.initialized y.cls).before a' U = true) :
    vx_Back l R p e below s sargs y len W9 (PreOf R mc ms Pc) (PostOf Qc mc ms free) (vx_Post XC mc ms free) := by
  intro m meth c A g ig mk a X hg hsize hdg hW hn hp
  have h1 : (headSpec ws rm).pre.before a A.U = true := atoms_intro fun w hw => hws w hw _ _ X.warmed
  have h2 : (Cond.code y bytes maxL ret).before a A.U = true := hws _ hcode _ _ X.warmed
  have h3 : (Cond.initialized y.cls).before a A.U = true := hinit _ _ X.warmed
  have h4 : A.cells + (headSpec ws rm).room.cells ≤ R.cells := by rw [show (headSpec ws rm).room.cells = mc from hrc]; exact hp.1
  have h5 : A.slots + (headSpec ws rm).room.slots ≤ R.slots := by rw [show (headSpec ws rm).room.slots = ms from hrs]; exact hp.2.1
  have hPc : Pc a (A.U.calling g mk a) := hblind _ _ _ _ hp.2.2
  obtain ⟨U, Ls, c0, s0⟩ := A
  dsimp only [Pt.U, Pt.locs, Pt.cells, Pt.slots] at h1 h2 h3 h4 h5 X hn hPc ⊢
  obtain ⟨methY, cY, hmY, hcY, -, hlY, -, -, -, -⟩ := Cond.code_spec hn h2
  obtain ⟨kY, hkY, -⟩ := className_of_methodNamed hn
  have hinitY : kY.init = .initialized := Cond.initialized_spec (findClass_of_methodNamed hn) hkY h3
  have h : At U g.method c below := by rw [hg]; exact X.here
  have hlocals9 : W9 + (maxL + 11) + (headSpec ws rm).room.locals ≤ R.locals := hlocals
  have happ : (headSpec ws rm).appliesLoose y e.platform (U.calling g mk a) = true :=
    Spec.appliesLoose_calling (g := g) h hdg hn hkY hinitY
      (X.room_calling (g := g) (R' := (headSpec ws rm).room) hsize hmY hcY hframes (by rw [hlY]; omega) h4 h5) h1
  obtain ⟨mid, hmid⟩ := h.above
  have hfr : (U.setTop g).frames = (.java g :: mid) ++ below := by rw [State.frames_setTop' g h.top, hmid]; rfl
  obtain ⟨o, s₂, hsteps, -, hend, hq⟩ := Steps.callFree hM p X.admits X.cas X.clock (acts := []) hfr happ hPc trivial
  have hq' : vx_Q Qc XC mc ms free a (U.calling g mk a) o s₂ := hq
  rw [State.frames_setTop' g h.top] at hend
  obtain ⟨g₀, hg0⟩ := Option.isSome_iff_exists.mp h.top
  obtain ⟨r, hr⟩ := State.topJava?_eq_some.mp hg0
  have hr' : (({ U with heap := s₂.heap, slotsUsed := s₂.slotsUsed } : State).setVm s₂.vm).frames = .java g₀ :: r := hr
  rcases hq' with ⟨hqc, L, hfe, hL⟩ | ⟨q, rfl, E, ce, L, hx, hce, hcv, hcl, hW₂, hsm, hL⟩
  · obtain ⟨⟨v, rfl⟩, hW₂, e2, q2, q3, q4, q5, q6⟩ := id hfe
    have e3 : s₂ = ({ (U.calling g mk a).setFrames s₂.frames with heap := s₂.heap, slotsUsed := s₂.slotsUsed } : State).setVm s₂.vm := by
      have : s₂ = ({ s₂ with vm := (U.calling g mk a).vm } : State).setVm s₂.vm := rfl
      rw [e2] at this
      exact this
    obtain ⟨c₂, i₂, len₂, hc₂, hd₂, hf₂⟩ := hend
    have hW' : U.WarmedH s₂.vm := hW₂
    have hcc : c₂ = c := by
      have h1 : s₂.code? g.method = U.code? g.method := by
        rw [State.code?_eq, State.code?_eq, hW'.alike.method?]
      exact Option.some.inj (hc₂.symm.trans (h1.trans h.code))
    subst hcc
    have hlen : len₂ = len := by rw [hdg] at hd₂; cases hd₂; rfl
    subst hlen
    have hs₂ : s₂ = (({ U with heap := s₂.heap, slotsUsed := s₂.slotsUsed } : State).setVm s₂.vm).setTop { g with pc := g.pc + len₂, stack := v.toList ++ g.stack } := by
      refine e3.trans ?_
      rw [hf₂, State.calling_eq h.top, State.setFrames_setFrames, State.setTop_of_frames _ hr', hr]
      rfl
    have hsame : U.sameButNew ({ U with heap := s₂.heap, slotsUsed := s₂.slotsUsed } : State) L mc ms := by
      refine ⟨?_, q2, q3, q4, q5, q6⟩
      obtain ⟨t, ht, -⟩ := State.frames_cons hr
      show ({ U with heap := s₂.heap, slotsUsed := s₂.slotsUsed } : State) = { U.setFrames U.frames with heap := s₂.heap, slotsUsed := s₂.slotsUsed }
      rw [State.setFrames_self ht]
    subst hg
    refine Or.inl ⟨v, ⟨(({ U with heap := s₂.heap, slotsUsed := s₂.slotsUsed } : State).setVm s₂.vm), Ls ++ L, c0 + mc, s0 + ms⟩,
      ⟨X.admits, X.cas, X.clock, X.frames, X.room, X.hears, X.method, X.code, (X.here.setHeapUsed s₂.heap s₂.slotsUsed).setVm hW'.alike, X.tail, State.WarmedH.trans X.warmed hW', X.limits, X.bytes, X.same.trans (hsame.setVm s.vm)⟩,
      ⟨g, mk, s₂, L, rfl, rfl, hqc, rfl, hL, rfl, rfl⟩, ?_⟩
    show Steps p.tables e below _ ((({ U with heap := s₂.heap, slotsUsed := s₂.slotsUsed } : State).setVm s₂.vm).setTop { g with pc := g.pc + len₂, stack := v.toList ++ g.stack })
    rw [← hs₂]
    exact hsteps
  · obtain ⟨e2, q2, q3, q4, q5, q6⟩ := id hsm
    have e3 : s₂ = ({ (U.calling g mk a).setFrames s₂.frames with heap := s₂.heap, slotsUsed := s₂.slotsUsed } : State).setVm s₂.vm := by
      have : s₂ = ({ s₂ with vm := (U.calling g mk a).vm } : State).setVm s₂.vm := rfl
      rw [e2] at this
      exact this
    have hf₂ : s₂.frames = .throwing q :: .java g :: U.frames.tail := hend
    have hW' : U.WarmedH s₂.vm := hW₂
    have hs₂ : s₂ = ((({ U with heap := s₂.heap, slotsUsed := s₂.slotsUsed } : State).setVm s₂.vm).setTop g).pushFrame (.throwing q) := by
      refine e3.trans ?_
      rw [hf₂, State.calling_eq h.top, State.setFrames_setFrames, State.pushFrame, State.frames_setTop _ hr', State.setTop_of_frames _ hr', State.setFrames_setFrames, hr]
      rfl
    have hsame : U.sameButNew ({ U with heap := s₂.heap, slotsUsed := s₂.slotsUsed } : State) L mc ms := by
      refine ⟨?_, q2, q3, q4, q5, q6⟩
      obtain ⟨t, ht, -⟩ := State.frames_cons hr
      show ({ U with heap := s₂.heap, slotsUsed := s₂.slotsUsed } : State) = { U.setFrames U.frames with heap := s₂.heap, slotsUsed := s₂.slotsUsed }
      rw [State.setFrames_self ht]
    subst hg
    refine Or.inr ⟨q, ⟨(({ U with heap := s₂.heap, slotsUsed := s₂.slotsUsed } : State).setVm s₂.vm), Ls ++ L, c0 + mc, s0 + ms⟩,
      ⟨X.admits, X.cas, X.clock, X.frames, X.room, X.hears, X.method, X.code, (X.here.setHeapUsed s₂.heap s₂.slotsUsed).setVm hW'.alike, X.tail, State.WarmedH.trans X.warmed hW', X.limits, X.bytes, X.same.trans (hsame.setVm s.vm)⟩,
      ⟨g, mk, s₂, L, E, ce, rfl, rfl, hx, hce, hcv, hcl, rfl, hL, rfl, rfl⟩, ?_⟩
    show Steps p.tables e below _ (((({ U with heap := s₂.heap, slotsUsed := s₂.slotsUsed } : State).setVm s₂.vm).setTop g).pushFrame (.throwing q))
    rw [← hs₂]
    exact hsteps
end Payer
section Calls
variable {p : Program} {l : Launch} {e : Env} {R : Room} {s : State} {m : MethodId} {args : Array Value} {below : List Frame} {meth : Method} {c : Code} {T : State} {locs : List Loc} {cells slots : Nat}
theorem vx_callV (X : Stand p l e R s m args below meth c T locs cells slots) (hexec : p.tables.exec = Jvm.exec) {own C : String} {index : Nat} {y : MethodName} {bytes : ByteArray} {maxL : Nat} {ret : Option FieldType}
    (hown : s.vm.findClass own = some m.cls) (hlink : (Cond.methodLink own index y).before args s = true) (hinst : (Cond.instanceMethod y).before args s = true) (hsel : (Cond.selects C y y).before args s = true)
    (hcode : (Cond.code y bytes maxL ret).before args s = true) (hy : y.cls ≠ "java/lang/invoke/MethodHandle" ∧ y.cls ≠ "java/lang/invoke/VarHandle")
    {W9 : Nat} {Pre : Pt → Array Value → Prop} {Post : Pt → Array Value → Option Value → Pt → Prop} {PostX : Pt → Array Value → Addr → Pt → Prop} (hK : vx_Back l R p e below s args y 3 W9 Pre Post PostX)
    {b : Addr} {cellB : Cell} (hcell : T.heap[b]? = some cellB) (hobj : cellB.vm.isStatics = false) (hcls : s.vm.findClass C = some cellB.cls)
    {g : JFrame} (hg : g.method = m) (hsize : g.locals.size = c.maxLocals) {argsL rest : List Value} (hlen : ∀ sig, parseMethodDescriptor y.desc = some sig → argsL.length = sig.parameters.length)
    (hstack : g.stack = argsL.reverse ++ .ref b :: rest) (hW : 2 * g.monitorRoom + (rest.map fun v => v.category).sum ≤ W9) (hdg : decode c.code g.pc = .ok (.invokevirtual index, 3))
    (hpre : ∀ vm₁, s.WarmedH vm₁ → Pre ⟨T.setVm vm₁, locs, cells, slots⟩ (Value.ref b :: argsL).toArray) :
    (∃ (v : Option Value) (vm₁ : Vm) (B : Pt), s.WarmedH vm₁ ∧ Stand p l e R s m args below meth c B.U B.locs B.cells B.slots ∧ Post ⟨T.setVm vm₁, locs, cells, slots⟩ (Value.ref b :: argsL).toArray v B ∧
      ∀ target, Steps p.tables e below (B.U.setTop { g with pc := g.pc + 3, stack := v.toList ++ rest }) target → Steps p.tables e below (T.setTop g) target) ∨
    (∃ (q : Addr) (vm₁ : Vm) (B : Pt), s.WarmedH vm₁ ∧ Stand p l e R s m args below meth c B.U B.locs B.cells B.slots ∧ PostX ⟨T.setVm vm₁, locs, cells, slots⟩ (Value.ref b :: argsL).toArray q B ∧
      Steps p.tables e below (T.setTop g) ((B.U.setTop { g with stack := rest }).pushFrame (.throwing q))) := by
  obtain ⟨mk, methM, hnamed, hmethM, hstM, habM⟩ := Cond.instanceMethod_spec hinst
  obtain ⟨methM', cM, hmethM', -, -, -, -, -, -, hsigM⟩ := Cond.code_spec hnamed hcode
  cases hmethM.symm.trans hmethM'
  obtain ⟨c2, r2, m2, q1, q2, q3, q4, kP, hkP, hkPi⟩ := Cond.selects_spec hsel
  cases hcls.symm.trans q1
  cases (State.methodFound?_of_named hnamed hy).symm.trans q2
  cases hnamed.symm.trans q3
  have hselP : selectMethod e.platform s.vm cellB.cls mk = .method mk := by rw [Launch.admits_selectMethod X.admits]; exact q4
  obtain ⟨vm₁, X₁, hstep₁⟩ := X.invokevirtual hexec hown hlink hnamed hmethM hstM hkP hkPi hy (a := b) (cell := cellB) hcell
    (fun z h => by rw [h] at hobj; cases hobj) hselP hmethM habM hkP hkPi (g := g) hg (argsL := argsL) (rest := rest) (hlen _ hsigM) hstack hdg
  rcases hK m meth c ⟨T.setVm vm₁, locs, cells, slots⟩ { g with stack := rest } (.invokevirtual index) mk (Value.ref b :: argsL).toArray X₁ hg hsize hdg hW (X₁.named hnamed) (hpre vm₁ X₁.warmed) with ⟨v, B, X', hpost, hsteps⟩ | ⟨q, B, X', hpost, hsteps⟩
  · exact Or.inl ⟨v, vm₁, B, X₁.warmed, X', hpost, fun target h => hstep₁ _ fun acts => by rw [doInvoke_state]; exact hsteps.trans h⟩
  · exact Or.inr ⟨q, vm₁, B, X₁.warmed, X', hpost, hstep₁ _ fun acts => by rw [doInvoke_state]; exact hsteps⟩
theorem vx_callS (X : Stand p l e R s m args below meth c T locs cells slots) (hexec : p.tables.exec = Jvm.exec) {own : String} {index : Nat} {y : MethodName} {bytes : ByteArray} {maxL : Nat} {ret : Option FieldType}
    (hown : s.vm.findClass own = some m.cls) (hlink : (Cond.methodLink own index y).before args s = true) (hstat : (Cond.static y).before args s = true) (hinit : (Cond.initialized y.cls).before args s = true)
    (hcode : (Cond.code y bytes maxL ret).before args s = true) (hy : y.cls ≠ "java/lang/invoke/MethodHandle" ∧ y.cls ≠ "java/lang/invoke/VarHandle")
    {W9 : Nat} {Pre : Pt → Array Value → Prop} {Post : Pt → Array Value → Option Value → Pt → Prop} {PostX : Pt → Array Value → Addr → Pt → Prop} (hK : vx_Back l R p e below s args y 3 W9 Pre Post PostX)
    {g : JFrame} (hg : g.method = m) (hsize : g.locals.size = c.maxLocals) {argsL rest : List Value} (hlen : ∀ sig, parseMethodDescriptor y.desc = some sig → argsL.length = sig.parameters.length)
    (hstack : g.stack = argsL.reverse ++ rest) (hW : 2 * g.monitorRoom + (rest.map fun v => v.category).sum ≤ W9) (hdg : decode c.code g.pc = .ok (.invokestatic index, 3))
    (hpre : ∀ vm₁, s.WarmedH vm₁ → Pre ⟨T.setVm vm₁, locs, cells, slots⟩ argsL.toArray) :
    (∃ (v : Option Value) (vm₁ : Vm) (B : Pt), s.WarmedH vm₁ ∧ Stand p l e R s m args below meth c B.U B.locs B.cells B.slots ∧ Post ⟨T.setVm vm₁, locs, cells, slots⟩ argsL.toArray v B ∧
      ∀ target, Steps p.tables e below (B.U.setTop { g with pc := g.pc + 3, stack := v.toList ++ rest }) target → Steps p.tables e below (T.setTop g) target) ∨
    (∃ (q : Addr) (vm₁ : Vm) (B : Pt), s.WarmedH vm₁ ∧ Stand p l e R s m args below meth c B.U B.locs B.cells B.slots ∧ PostX ⟨T.setVm vm₁, locs, cells, slots⟩ argsL.toArray q B ∧
      Steps p.tables e below (T.setTop g) ((B.U.setTop { g with stack := rest }).pushFrame (.throwing q))) := by
  obtain ⟨mk, hnamed⟩ := Cond.code_named hcode
  obtain ⟨methM, cM, hmethM, -, -, -, -, -, -, hsigM⟩ := Cond.code_spec hnamed hcode
  have hstatic : methM.isStatic = true := Cond.static_spec hnamed hmethM hstat
  obtain ⟨kP, hkP, -⟩ := className_of_methodNamed hnamed
  have hinitP : kP.init = .initialized := Cond.initialized_spec (findClass_of_methodNamed hnamed) hkP hinit
  obtain ⟨vm₁, X₁, hstep₁⟩ := X.invokestatic hexec hown hlink hnamed hmethM hstatic hkP hinitP hy (g := g) hg (argsL := argsL) (rest := rest) (hlen _ hsigM) hstack hdg
  rcases hK m meth c ⟨T.setVm vm₁, locs, cells, slots⟩ { g with stack := rest } (.invokestatic index) mk argsL.toArray X₁ hg hsize hdg hW (X₁.named hnamed) (hpre vm₁ X₁.warmed) with ⟨v, B, X', hpost, hsteps⟩ | ⟨q, B, X', hpost, hsteps⟩
  · exact Or.inl ⟨v, vm₁, B, X₁.warmed, X', hpost, fun target h => hstep₁ _ fun acts => by rw [doInvoke_state]; exact hsteps.trans h⟩
  · exact Or.inr ⟨q, vm₁, B, X₁.warmed, X', hpost, hstep₁ _ fun acts => by rw [doInvoke_state]; exact hsteps⟩
end Calls
theorem vx_cls {s : State} {T : State} {vm₁ : Vm} {E : String} {k : ClassId} (hW : s.WarmedH vm₁) (h : (T.setVm vm₁).vm.findClass E = some k) : s.vm.findClass E = some k := by
  have h1 : vm₁.findClass E = some k := h
  rw [hW.alike.findClass] at h1
  exact h1
/-- the method's frame g, with q thrown over it -/
def vx_W (p : Program) (l : Launch) (e : Env) (R : Room) (s : State) (m : MethodId) (args : Array Value) (below : List Frame) (meth : Method) (c : Code) (H : Heap) (locs : List Loc) (cells slots : Nat) (Q : State → Prop) (g : JFrame) (q : Addr) : Prop :=
  ∀ T : State, T.heap = H → Stand p l e R s m args below meth c T locs cells slots → ∃ t, Steps p.tables e below ((T.setTop g).pushFrame (.throwing q)) t ∧ Q t
def vx_Run (p : Program) (l : Launch) (e : Env) (R : Room) (s : State) (m : MethodId) (args : Array Value) (below : List Frame) (meth : Method) (c : Code) (H : Heap) (locs : List Loc) (cells slots mc ms : Nat) (g : JFrame) (rest : List Value) (Qa : State → Outcome → State → Prop) (XC : String → State → State → Prop) (free : Addr → Prop) : Prop :=
  ∀ T : State, T.heap = H → Stand p l e R s m args below meth c T locs cells slots →
    (∃ (v : Option Value) (st₀ t T' : State) (L : List Loc), st₀.heap = H ∧ Stand p l e R s m args below meth c T' (locs ++ L) (cells + mc) (slots + ms) ∧ (∀ q ∈ L, free q.base) ∧ T'.heap = t.heap ∧ T'.vm = t.vm ∧ Qa st₀ (.returned v) t ∧
      Goes p e below T g T' { g with pc := g.pc + 3, stack := v.toList ++ rest }) ∨
    (∃ (q : Addr) (st₀ t T' : State) (L : List Loc) (E : String) (ce : Cell), st₀.heap = H ∧ Stand p l e R s m args below meth c T' (locs ++ L) (cells + mc) (slots + ms) ∧ (∀ z ∈ L, free z.base) ∧ T'.heap = t.heap ∧ T'.vm = t.vm ∧ XC E st₀ t ∧ t.heap[q]? = some ce ∧ ce.vm = .none ∧ s.vm.findClass E = some ce.cls ∧
      Steps p.tables e below (T.setTop g) ((T'.setTop { g with stack := rest }).pushFrame (.throwing q)))
def vx_X {S : Type} (px : S → Prop) (B : String → S → State → Prop) (A : Nat → Prop) : String → State → State → Prop := fun E st t => ∃ u : S, px u ∧ B E u t ∧ va_F A st t
section Runs
variable {p : Program} {l : Launch} {e : Env} {R : Room} {s : State} {m : MethodId} {args : Array Value} {below : List Frame} {meth : Method} {c : Code} {H : Heap} {locs : List Loc} {cells slots : Nat}
variable {y : MethodName} {bytes cc : ByteArray} {maxL nL mc ms n index : Nat} {ret : Option FieldType} {ws : List Cond} {rm : Room} {Pc : Array Value → State → Prop} {Qc : Array Value → State → Outcome → State → Prop} {XC : String → State → State → Prop} {free : Addr → Prop} {Ts : List Cond} {own C : String} {b : Addr} {As rest : List Value} {g : JFrame}
theorem vx_callBack (cb : CallB R s args own index y bytes maxL ret ws rm mc ms n) (hM : vx_Met l y ws rm Pc Qc XC mc ms free) (hbl : FrameBlind Pc) : vx_Back l R p e below s args y 3 8 (PreOf R mc ms Pc) (PostOf Qc mc ms free) (vx_Post XC mc ms free) := by
  obtain ⟨hrc, hrs, hfr, hlo, hws, hcw, -, hini, -⟩ := cb
  exact vx_back (bytes := bytes) (maxL := maxL) (ret := ret) hM hbl hrc hrs hfr hlo hws hcw (fun a' U hW => word_at hW (Or.inl (by first | rfl | simp [Cond.onTables, Cond.keeps, Cond.steady])) hini)
theorem vx_runV (S : CallFix p m c cc nL s args Ts own) (hM : vx_Met l y ws rm Pc Qc XC mc ms free) (cw : CallW R s args own C index y bytes maxL ret ws rm mc ms n) (hp : PreV s H C b Pc As)
    (hg : g.method = m) (hn : As.length = n) (hsize : g.locals.size = nL) (hstack : g.stack = As.reverse ++ .ref b :: rest) (hW : 2 * g.monitorRoom + (rest.map fun v => v.category).sum ≤ 8) (hdg : decode cc g.pc = .ok (.invokevirtual index, 3)) (hf : cells + mc ≤ R.cells ∧ slots + ms ≤ R.slots) :
    vx_Run p l e R s m args below meth c H locs cells slots mc ms g rest (Qc (Value.ref b :: As).toArray) XC free := by
  have hK : vx_Back l R p e below s args y 3 8 (PreOf R mc ms Pc) (PostOf Qc mc ms free) (vx_Post XC mc ms free) := vx_callBack cw.1 hM hp.1
  obtain ⟨⟨-, -, -, -, -, -, hcode, -, hy, hlen, hl⟩, hin, hse⟩ := cw
  obtain ⟨hx, hb, hml, ho, -⟩ := S
  obtain ⟨-, ⟨cellB, hcB, hoB, hclB⟩, hPc⟩ := hp
  intro T hT X
  rcases vx_callV X hx (C := C) (bytes := bytes) (maxL := maxL) (ret := ret) ho hl hin hse hcode hy hK (by rw [hT]; exact hcB) hoB hclB hg (hsize.trans hml.symm) (argsL := As) (rest := rest) (fun sig h => hn.trans (hlen sig h)) hstack hW (by rw [hb]; exact hdg)
    (fun vm₁ hW₁ => ⟨hf.1, hf.2, hPc (T.setVm vm₁) hT hW₁⟩) with ⟨v, vm₁, ⟨U', l2, c2, s2⟩, hW₁, X', ⟨g', mk, t, L, e1, e2, hq, h1, hL, h2, h3⟩, st⟩ | ⟨q, vm₁, ⟨U', l2, c2, s2⟩, hW₁, X', ⟨g', mk, t, L, E, ce, e1, e2, hq, hce, hcv, hcl, h1, hL, h2, h3⟩, st⟩
  · dsimp only [Pt.U, Pt.locs, Pt.cells, Pt.slots] at X' e1 e2 h1 h2 h3 st
    subst h1; subst h2; subst h3
    exact Or.inl ⟨v, (T.setVm vm₁).calling g' mk (Value.ref b :: As).toArray, t, U', L, hT, X', hL, e1, e2, hq, st⟩
  · dsimp only [Pt.U, Pt.locs, Pt.cells, Pt.slots] at X' e1 e2 h1 h2 h3 st hcl
    subst h1; subst h2; subst h3
    exact Or.inr ⟨q, (T.setVm vm₁).calling g' mk (Value.ref b :: As).toArray, t, U', L, E, ce, hT, X', hL, e1, e2, hq, hce, hcv, vx_cls hW₁ hcl, st⟩
theorem vx_runS (S : CallFix p m c cc nL s args Ts own) (hM : vx_Met l y ws rm Pc Qc XC mc ms free) (cw : CallB R s args own index y bytes maxL ret ws rm mc ms n ∧ (Cond.static y).before args s = true) (hp : PreS s H Pc As)
    (hg : g.method = m) (hn : As.length = n) (hsize : g.locals.size = nL) (hstack : g.stack = As.reverse ++ rest) (hW : 2 * g.monitorRoom + (rest.map fun v => v.category).sum ≤ 8) (hdg : decode cc g.pc = .ok (.invokestatic index, 3)) (hf : cells + mc ≤ R.cells ∧ slots + ms ≤ R.slots) :
    vx_Run p l e R s m args below meth c H locs cells slots mc ms g rest (Qc As.toArray) XC free := by
  have hK : vx_Back l R p e below s args y 3 8 (PreOf R mc ms Pc) (PostOf Qc mc ms free) (vx_Post XC mc ms free) := vx_callBack cw.1 hM hp.1
  obtain ⟨⟨-, -, -, -, -, -, hcode, hini, hy, hlen, hl⟩, hstt⟩ := cw
  obtain ⟨hx, hb, hml, ho, -⟩ := S
  intro T hT X
  rcases vx_callS X hx (bytes := bytes) (maxL := maxL) (ret := ret) ho hl hstt hini hcode hy hK hg (hsize.trans hml.symm) (argsL := As) (rest := rest) (fun sig h => hn.trans (hlen sig h)) hstack hW (by rw [hb]; exact hdg)
    (fun vm₁ hW₁ => ⟨hf.1, hf.2, hp.2 (T.setVm vm₁) hT hW₁⟩) with ⟨v, vm₁, ⟨U', l2, c2, s2⟩, hW₁, X', ⟨g', mk, t, L, e1, e2, hq, h1, hL, h2, h3⟩, st⟩ | ⟨q, vm₁, ⟨U', l2, c2, s2⟩, hW₁, X', ⟨g', mk, t, L, E, ce, e1, e2, hq, hce, hcv, hcl, h1, hL, h2, h3⟩, st⟩
  · dsimp only [Pt.U, Pt.locs, Pt.cells, Pt.slots] at X' e1 e2 h1 h2 h3 st
    subst h1; subst h2; subst h3
    exact Or.inl ⟨v, (T.setVm vm₁).calling g' mk As.toArray, t, U', L, hT, X', hL, e1, e2, hq, st⟩
  · dsimp only [Pt.U, Pt.locs, Pt.cells, Pt.slots] at X' e1 e2 h1 h2 h3 st hcl
    subst h1; subst h2; subst h3
    exact Or.inr ⟨q, (T.setVm vm₁).calling g' mk As.toArray, t, U', L, E, ce, hT, X', hL, e1, e2, hq, hce, hcv, vx_cls hW₁ hcl, st⟩
end Runs
section Rows
variable {p : Program} {l : Launch} {e : Env} {R : Room} {s : State} {m : MethodId} {args : Array Value} {below : List Frame} {meth : Method} {c : Code} {H : Heap} {locs : List Loc} {cells slots : Nat} {Q : State → Prop}
variable {mc ms : Nat} {free : Addr → Prop} {A0 A1 : Nat → Prop} {H0 : Heap} {a : Array Value} {pc : Nat} {ls : Array Slot} {st0 rest : List Value}
theorem vx_keep {st₀ t T' : State} {L : List Loc} (h0 : st₀.heap = H) (e1 : T'.heap = t.heap) (hS : va_S A0 H0 H locs) (hA : ∀ q, q < H.size → A1 q → A0 q) (hf : ∀ q, free q → A0 q) (hL : ∀ q ∈ L, free q.base) (hF : va_F A1 st₀ t) :
    H.size ≤ T'.heap.size ∧ (∀ q : Nat, q < H.size → ¬ A1 q → T'.heap[q]? = H[q]?) ∧ va_S A0 H0 T'.heap (locs ++ L) := by
  obtain ⟨hz, hk⟩ := hF
  rw [h0] at hz hk
  exact ⟨by rw [e1]; exact hz, fun q h1 h2 => by rw [e1]; exact hk q h1 h2,
    ⟨Nat.le_trans hS.1 (by rw [e1]; exact hz), fun q h1 h2 => by rw [e1, hk q (Nat.lt_of_lt_of_le h1 hS.1) (fun z => h2 (hA q (Nat.lt_of_lt_of_le h1 hS.1) z))]; exact hS.2.1 q h1 h2, fun q hq => by
      rcases List.mem_append.mp hq with h | h
      · exact hS.2.2 q h
      · exact hf _ (hL q h)⟩⟩
theorem vx_calli {S SX : Type} {post : Int32 → S → Prop} {px : SX → Prop} {B : S → State → Prop} {BX : String → SX → State → Prop} {AX : Nat → Prop} (hr : vx_Run p l e R s m args below meth c H locs cells slots mc ms (F0 m pc ls st0) rest (va_Qi post B A1 a) (vx_X px BX AX) free) (hS : va_S A0 H0 H locs) (hA : ∀ q, q < H.size → A1 q → A0 q) (hf : ∀ q, free q → A0 q) (hAX : ∀ q, q < H.size → AX q → A0 q)
    (kx : ∀ (E : String) (ce : Cell) (q9 : Addr) (u : SX) (t : State) (H1 : Heap) (locs1 : List Loc), t.heap = H1 → s.vm.Alike t.vm → px u → BX E u t → H.size ≤ H1.size → (∀ q : Nat, q < H.size → ¬ AX q → H1[q]? = H[q]?) → va_S A0 H0 H1 locs1 → H1[q9]? = some ce → ce.vm = .none → s.vm.findClass E = some ce.cls → vx_W p l e R s m args below meth c H1 locs1 (cells + mc) (slots + ms) Q (F0 m pc ls rest) q9)
    (kk : ∀ (r : Int32) (u : S) (t : State) (H1 : Heap) (locs1 : List Loc), t.heap = H1 → s.vm.Alike t.vm → post r u → B u t → H.size ≤ H1.size → (∀ q : Nat, q < H.size → ¬ A1 q → H1[q]? = H[q]?) → va_S A0 H0 H1 locs1 → W p l e R s m args below meth c H1 locs1 (cells + mc) (slots + ms) Q (F0 m (pc + 3) ls (.int r :: rest))) : W p l e R s m args below meth c H locs cells slots Q (F0 m pc ls st0) := by
  intro T hT X
  rcases hr T hT X with ⟨v, st₀, t, T', L, h0, X', hL, e1, e2, ⟨⟨r, u, hv, hp, hb⟩, hF⟩, st⟩ | ⟨q, st₀, t, T', L, E, ce, h0, X', hL, e1, e2, ⟨u, hp, hb, hF⟩, hce, hcv, hcl, st⟩
  · cases hv
    obtain ⟨k1, k2, k3⟩ := vx_keep h0 e1 hS hA hf hL hF
    obtain ⟨t2, a1, b1⟩ := kk r u t T'.heap (locs ++ L) e1.symm (by rw [← e2]; exact X'.warmed.alike) hp hb k1 k2 k3 T' rfl X'
    exact ⟨t2, st t2 a1, b1⟩
  · obtain ⟨k1, k2, k3⟩ := vx_keep h0 e1 hS hAX hf hL hF
    obtain ⟨t2, a1, b1⟩ := kx E ce q u t T'.heap (locs ++ L) e1.symm (by rw [← e2]; exact X'.warmed.alike) hp hb k1 k2 k3 (by rw [e1]; exact hce) hcv hcl T' rfl X'
    exact ⟨t2, st.trans a1, b1⟩
theorem vx_calll {S SX : Type} {post : Int64 → S → Prop} {px : SX → Prop} {B : S → State → Prop} {BX : String → SX → State → Prop} {AX : Nat → Prop} (hr : vx_Run p l e R s m args below meth c H locs cells slots mc ms (F0 m pc ls st0) rest (va_Ql post B A1 a) (vx_X px BX AX) free) (hS : va_S A0 H0 H locs) (hA : ∀ q, q < H.size → A1 q → A0 q) (hf : ∀ q, free q → A0 q) (hAX : ∀ q, q < H.size → AX q → A0 q)
    (kx : ∀ (E : String) (ce : Cell) (q9 : Addr) (u : SX) (t : State) (H1 : Heap) (locs1 : List Loc), t.heap = H1 → s.vm.Alike t.vm → px u → BX E u t → H.size ≤ H1.size → (∀ q : Nat, q < H.size → ¬ AX q → H1[q]? = H[q]?) → va_S A0 H0 H1 locs1 → H1[q9]? = some ce → ce.vm = .none → s.vm.findClass E = some ce.cls → vx_W p l e R s m args below meth c H1 locs1 (cells + mc) (slots + ms) Q (F0 m pc ls rest) q9)
    (kk : ∀ (r : Int64) (u : S) (t : State) (H1 : Heap) (locs1 : List Loc), t.heap = H1 → s.vm.Alike t.vm → post r u → B u t → H.size ≤ H1.size → (∀ q : Nat, q < H.size → ¬ A1 q → H1[q]? = H[q]?) → va_S A0 H0 H1 locs1 → W p l e R s m args below meth c H1 locs1 (cells + mc) (slots + ms) Q (F0 m (pc + 3) ls (.long r :: rest))) : W p l e R s m args below meth c H locs cells slots Q (F0 m pc ls st0) := by
  intro T hT X
  rcases hr T hT X with ⟨v, st₀, t, T', L, h0, X', hL, e1, e2, ⟨⟨r, u, hv, hp, hb⟩, hF⟩, st⟩ | ⟨q, st₀, t, T', L, E, ce, h0, X', hL, e1, e2, ⟨u, hp, hb, hF⟩, hce, hcv, hcl, st⟩
  · cases hv
    obtain ⟨k1, k2, k3⟩ := vx_keep h0 e1 hS hA hf hL hF
    obtain ⟨t2, a1, b1⟩ := kk r u t T'.heap (locs ++ L) e1.symm (by rw [← e2]; exact X'.warmed.alike) hp hb k1 k2 k3 T' rfl X'
    exact ⟨t2, st t2 a1, b1⟩
  · obtain ⟨k1, k2, k3⟩ := vx_keep h0 e1 hS hAX hf hL hF
    obtain ⟨t2, a1, b1⟩ := kx E ce q u t T'.heap (locs ++ L) e1.symm (by rw [← e2]; exact X'.warmed.alike) hp hb k1 k2 k3 (by rw [e1]; exact hce) hcv hcl T' rfl X'
    exact ⟨t2, st.trans a1, b1⟩
theorem vx_callf {S SX : Type} {post : UInt32 → S → Prop} {px : SX → Prop} {B : S → State → Prop} {BX : String → SX → State → Prop} {AX : Nat → Prop} (hr : vx_Run p l e R s m args below meth c H locs cells slots mc ms (F0 m pc ls st0) rest (va_Qf post B A1 a) (vx_X px BX AX) free) (hS : va_S A0 H0 H locs) (hA : ∀ q, q < H.size → A1 q → A0 q) (hf : ∀ q, free q → A0 q) (hAX : ∀ q, q < H.size → AX q → A0 q)
    (kx : ∀ (E : String) (ce : Cell) (q9 : Addr) (u : SX) (t : State) (H1 : Heap) (locs1 : List Loc), t.heap = H1 → s.vm.Alike t.vm → px u → BX E u t → H.size ≤ H1.size → (∀ q : Nat, q < H.size → ¬ AX q → H1[q]? = H[q]?) → va_S A0 H0 H1 locs1 → H1[q9]? = some ce → ce.vm = .none → s.vm.findClass E = some ce.cls → vx_W p l e R s m args below meth c H1 locs1 (cells + mc) (slots + ms) Q (F0 m pc ls rest) q9)
    (kk : ∀ (r : UInt32) (u : S) (t : State) (H1 : Heap) (locs1 : List Loc), t.heap = H1 → s.vm.Alike t.vm → post r u → B u t → H.size ≤ H1.size → (∀ q : Nat, q < H.size → ¬ A1 q → H1[q]? = H[q]?) → va_S A0 H0 H1 locs1 → W p l e R s m args below meth c H1 locs1 (cells + mc) (slots + ms) Q (F0 m (pc + 3) ls (.float r :: rest))) : W p l e R s m args below meth c H locs cells slots Q (F0 m pc ls st0) := by
  intro T hT X
  rcases hr T hT X with ⟨v, st₀, t, T', L, h0, X', hL, e1, e2, ⟨⟨r, u, hv, hp, hb⟩, hF⟩, st⟩ | ⟨q, st₀, t, T', L, E, ce, h0, X', hL, e1, e2, ⟨u, hp, hb, hF⟩, hce, hcv, hcl, st⟩
  · cases hv
    obtain ⟨k1, k2, k3⟩ := vx_keep h0 e1 hS hA hf hL hF
    obtain ⟨t2, a1, b1⟩ := kk r u t T'.heap (locs ++ L) e1.symm (by rw [← e2]; exact X'.warmed.alike) hp hb k1 k2 k3 T' rfl X'
    exact ⟨t2, st t2 a1, b1⟩
  · obtain ⟨k1, k2, k3⟩ := vx_keep h0 e1 hS hAX hf hL hF
    obtain ⟨t2, a1, b1⟩ := kx E ce q u t T'.heap (locs ++ L) e1.symm (by rw [← e2]; exact X'.warmed.alike) hp hb k1 k2 k3 (by rw [e1]; exact hce) hcv hcl T' rfl X'
    exact ⟨t2, st.trans a1, b1⟩
theorem vx_calld {S SX : Type} {post : UInt64 → S → Prop} {px : SX → Prop} {B : S → State → Prop} {BX : String → SX → State → Prop} {AX : Nat → Prop} (hr : vx_Run p l e R s m args below meth c H locs cells slots mc ms (F0 m pc ls st0) rest (va_Qd post B A1 a) (vx_X px BX AX) free) (hS : va_S A0 H0 H locs) (hA : ∀ q, q < H.size → A1 q → A0 q) (hf : ∀ q, free q → A0 q) (hAX : ∀ q, q < H.size → AX q → A0 q)
    (kx : ∀ (E : String) (ce : Cell) (q9 : Addr) (u : SX) (t : State) (H1 : Heap) (locs1 : List Loc), t.heap = H1 → s.vm.Alike t.vm → px u → BX E u t → H.size ≤ H1.size → (∀ q : Nat, q < H.size → ¬ AX q → H1[q]? = H[q]?) → va_S A0 H0 H1 locs1 → H1[q9]? = some ce → ce.vm = .none → s.vm.findClass E = some ce.cls → vx_W p l e R s m args below meth c H1 locs1 (cells + mc) (slots + ms) Q (F0 m pc ls rest) q9)
    (kk : ∀ (r : UInt64) (u : S) (t : State) (H1 : Heap) (locs1 : List Loc), t.heap = H1 → s.vm.Alike t.vm → post r u → B u t → H.size ≤ H1.size → (∀ q : Nat, q < H.size → ¬ A1 q → H1[q]? = H[q]?) → va_S A0 H0 H1 locs1 → W p l e R s m args below meth c H1 locs1 (cells + mc) (slots + ms) Q (F0 m (pc + 3) ls (.double r :: rest))) : W p l e R s m args below meth c H locs cells slots Q (F0 m pc ls st0) := by
  intro T hT X
  rcases hr T hT X with ⟨v, st₀, t, T', L, h0, X', hL, e1, e2, ⟨⟨r, u, hv, hp, hb⟩, hF⟩, st⟩ | ⟨q, st₀, t, T', L, E, ce, h0, X', hL, e1, e2, ⟨u, hp, hb, hF⟩, hce, hcv, hcl, st⟩
  · cases hv
    obtain ⟨k1, k2, k3⟩ := vx_keep h0 e1 hS hA hf hL hF
    obtain ⟨t2, a1, b1⟩ := kk r u t T'.heap (locs ++ L) e1.symm (by rw [← e2]; exact X'.warmed.alike) hp hb k1 k2 k3 T' rfl X'
    exact ⟨t2, st t2 a1, b1⟩
  · obtain ⟨k1, k2, k3⟩ := vx_keep h0 e1 hS hAX hf hL hF
    obtain ⟨t2, a1, b1⟩ := kx E ce q u t T'.heap (locs ++ L) e1.symm (by rw [← e2]; exact X'.warmed.alike) hp hb k1 k2 k3 (by rw [e1]; exact hce) hcv hcl T' rfl X'
    exact ⟨t2, st.trans a1, b1⟩
theorem vx_callv {S SX : Type} {post : S → Prop} {px : SX → Prop} {B : S → State → Prop} {BX : String → SX → State → Prop} {AX : Nat → Prop} (hr : vx_Run p l e R s m args below meth c H locs cells slots mc ms (F0 m pc ls st0) rest (va_Qv post B A1 a) (vx_X px BX AX) free) (hS : va_S A0 H0 H locs) (hA : ∀ q, q < H.size → A1 q → A0 q) (hf : ∀ q, free q → A0 q) (hAX : ∀ q, q < H.size → AX q → A0 q)
    (kx : ∀ (E : String) (ce : Cell) (q9 : Addr) (u : SX) (t : State) (H1 : Heap) (locs1 : List Loc), t.heap = H1 → s.vm.Alike t.vm → px u → BX E u t → H.size ≤ H1.size → (∀ q : Nat, q < H.size → ¬ AX q → H1[q]? = H[q]?) → va_S A0 H0 H1 locs1 → H1[q9]? = some ce → ce.vm = .none → s.vm.findClass E = some ce.cls → vx_W p l e R s m args below meth c H1 locs1 (cells + mc) (slots + ms) Q (F0 m pc ls rest) q9)
    (kk : ∀ (u : S) (t : State) (H1 : Heap) (locs1 : List Loc), t.heap = H1 → s.vm.Alike t.vm → post u → B u t → H.size ≤ H1.size → (∀ q : Nat, q < H.size → ¬ A1 q → H1[q]? = H[q]?) → va_S A0 H0 H1 locs1 → W p l e R s m args below meth c H1 locs1 (cells + mc) (slots + ms) Q (F0 m (pc + 3) ls (rest))) : W p l e R s m args below meth c H locs cells slots Q (F0 m pc ls st0) := by
  intro T hT X
  rcases hr T hT X with ⟨v, st₀, t, T', L, h0, X', hL, e1, e2, ⟨⟨u, hv, hp, hb⟩, hF⟩, st⟩ | ⟨q, st₀, t, T', L, E, ce, h0, X', hL, e1, e2, ⟨u, hp, hb, hF⟩, hce, hcv, hcl, st⟩
  · cases hv
    obtain ⟨k1, k2, k3⟩ := vx_keep h0 e1 hS hA hf hL hF
    obtain ⟨t2, a1, b1⟩ := kk u t T'.heap (locs ++ L) e1.symm (by rw [← e2]; exact X'.warmed.alike) hp hb k1 k2 k3 T' rfl X'
    exact ⟨t2, st t2 a1, b1⟩
  · obtain ⟨k1, k2, k3⟩ := vx_keep h0 e1 hS hAX hf hL hF
    obtain ⟨t2, a1, b1⟩ := kx E ce q u t T'.heap (locs ++ L) e1.symm (by rw [← e2]; exact X'.warmed.alike) hp hb k1 k2 k3 (by rw [e1]; exact hce) hcv hcl T' rfl X'
    exact ⟨t2, st.trans a1, b1⟩
/-- caught by the row x of this method's table; the rows ahead don't take it -/
theorem vx_catch {own name : String} {E : String} {ce : Cell} {q : Addr} (hown : s.vm.findClass own = some m.cls) (pre : List ExceptionTableEntry) (x : ExceptionTableEntry) (suf : List ExceptionTableEntry) (hsplit : c.exceptionTable.toList = pre ++ x :: suf)
    (hpass : ∀ z ∈ pre, covers z pc = false ∨ (z.catchType ≠ 0 ∧ ∃ nm : String, (Cond.classLink own z.catchType nm).before args s = true ∧ va_Nc E nm s)) (hx : covers x pc = true) (h0 : x.catchType ≠ 0)
    (hlink : (Cond.classLink own x.catchType name).before args s = true) (hcast : (Cond.castable E name).before args s = true) (hcell : H[q]? = some ce) (hv : ce.vm = .none) (hcl : s.vm.findClass E = some ce.cls)
    (kk : W p l e R s m args below meth c H locs cells slots Q (F0 m x.handlerPc ls [.ref q])) : vx_W p l e R s m args below meth c H locs cells slots Q (F0 m pc ls rest) q := by
  intro T hT X
  have hpl : e.platform.magicAccessors = ({} : Platform).magicAccessors := by rw [X.admits.platform]
  obtain ⟨c3, c4, hc3, hc4, hasg⟩ := Cond.castable_spec hcast
  cases Option.some.inj (hc3.symm.trans hcl)
  obtain ⟨c5, hc5, hcl5⟩ := Cond.classLink_spec hown hlink e.platform hpl
  cases Option.some.inj (hc4.symm.trans hc5)
  obtain ⟨vm', X', st⟩ := X.thenCaughtThrough q (g := F0 m pc ls rest) rfl (Steps.refl _) (by rw [hT]; exact hcell) (by rw [hv]; rfl) (by obtain ⟨k9, h9, -⟩ := Vm.findClass_spec hcl; exact ⟨k9, h9⟩) pre x suf hsplit
    (fun z hz => by
      rcases hpass z hz with h | ⟨hz0, nm, hl1, hn1⟩
      · exact Or.inl h
      · obtain ⟨c6, hc6, hcl6⟩ := Cond.classLink_spec hown hl1 e.platform hpl
        obtain ⟨a8, b8, h1, h2, h3⟩ := hn1
        cases Option.some.inj (h1.symm.trans hcl)
        cases Option.some.inj (h2.symm.trans hc6)
        exact Or.inr ⟨hz0, _, hcl6, h3⟩) hx (Or.inr ⟨h0, c4, hcl5, hasg⟩)
  obtain ⟨t, a1, b1⟩ := kk (T.setVm vm') hT X'
  exact ⟨t, st.trans a1, b1⟩
end Rows
section Ends
variable {p : Program} {l : Launch} {e : Env} {R : Room} {s : State} {m : MethodId} {args : Array Value} {below : List Frame} {meth : Method} {c : Code} {H : Heap} {locs : List Loc} {cells slots : Nat} {Q : State → Prop}
variable {mc ms : Nat} {free : Addr → Prop} {A0 A1 : Nat → Prop} {H0 : Heap} {a : Array Value} {ls : Array Slot} {st0 rest : List Value}
variable {Qc : Array Value → State → Outcome → State → Prop} {XC : String → State → State → Prop}
/-- what a body that may throw owes at its end -/
def vx_MQ (below : List Frame) (Qc : Array Value → State → Outcome → State → Prop) (XC : String → State → State → Prop) (a : Array Value) (s : State) (mc ms : Nat) (free : Addr → Prop) : State → Prop := fun t =>
  ∃ o, t.status = .running ∧ Ended t below o ∧ vx_Q Qc XC mc ms free a s o t
theorem vx_ret {g : JFrame} {mc ms : Nat} (k : W p l e R s m args below meth c H locs cells slots (MQ below Qc args s mc ms free) g) : W p l e R s m args below meth c H locs cells slots (vx_MQ below Qc XC args s mc ms free) g := by
  intro T hT X
  obtain ⟨t, a1, o, b1, b2, b3, b4⟩ := k T hT X
  exact ⟨t, a1, o, b1, b2, Or.inl ⟨b3, b4⟩⟩
/-- not caught here: it goes on to the caller -/
theorem vx_widen {g : JFrame} {q : Addr} {k n : Nat} (h1 : cells ≤ k) (h2 : slots ≤ n) (kk : vx_W p l e R s m args below meth c H locs k n Q g q) : vx_W p l e R s m args below meth c H locs cells slots Q g q := fun T hT X => kk T hT (stand_widen X h1 h2)
theorem vx_out {pc : Nat} {E : String} {ce : Cell} {q : Addr} {mc ms : Nat} (hout : ∀ x ∈ c.exceptionTable.toList, covers x pc = false) (hlocks : meth.locks = false) (hcell : H[q]? = some ce) (hv : ce.vm = .none) (hcl : s.vm.findClass E = some ce.cls)
    (hx : ∀ t : State, t.heap = H → s.vm.Alike t.vm → XC E s t) (hf : ∀ z ∈ locs, free z.base) (hc : cells ≤ mc) (hs : slots ≤ ms) :
    vx_W p l e R s m args below meth c H locs cells slots (vx_MQ below Qc XC args s mc ms free) (F0 m pc ls rest) q := by
  intro T hT X
  obtain ⟨st1, hrun, hend, hW, hsm⟩ := X.leaveThrown q (g := F0 m pc ls rest) rfl rfl rfl hout hlocks
  have hcell9 : (T.setFrames (.throwing q :: below)).heap[q]? = some ce := by
    show T.heap[q]? = some ce
    rw [hT]; exact hcell
  exact ⟨_, st1, .threw q, hrun, hend, Or.inr ⟨q, rfl, E, ce, locs, hx _ hT hW.alike, hcell9, hv, hcl, hW, hsm.mono hc hs, hf⟩⟩
theorem vx_frame {U : State} {k n : Nat} (h : s.sameButNew ({ U with vm := s.vm } : State) locs k n) : s.heap.size ≤ U.heap.size ∧ ∀ q : Nat, q < s.heap.size → (∀ z ∈ locs, z.base ≠ q) → U.heap[q]? = s.heap[q]? := by
  obtain ⟨-, h2, -, -, -, h6⟩ := h
  refine ⟨h2, fun q hq hz => ?_⟩
  obtain ⟨c9, e1, e2, e3, e4⟩ := h6 q _ (Array.getElem?_eq_getElem hq)
  have hs : c9.slots = (s.heap[q]).slots := Array.ext_getElem? fun i => e4 i fun hm => hz _ hm rfl
  have h9 : c9 = s.heap[q] := by
    rw [hs] at e2
    exact e2
  have e5 : U.heap[q]? = some c9 := e1
  rw [e5, h9, Array.getElem?_eq_getElem hq]
/-- the words of a throw but the four that speak of the heap -/
def vx_no (w : Cond) : Bool := decide (w ≠ .isRef (.static Bundle.tN "UNASSIGNED_STACK" Bundle.steD)) && decide (w ≠ .isRef (.static Bundle.tN "SUPPRESSED_SENTINEL" Bundle.listD)) && decide (w ≠ .laysStatic Bundle.tN "UNASSIGNED_STACK" Bundle.steD) && decide (w ≠ .laysStatic Bundle.tN "SUPPRESSED_SENTINEL" Bundle.listD)
def vx_at0 (own : String) (ic : Nat) (X : String) (names : List String) : List Cond := (Bundle.ownAtoms0 own ic X names).filter vx_no
def vx_atS (own : String) (ic : Nat) (X : String) (names : List String) : List Cond := (Bundle.ownAtoms own ic X names).filter vx_no
/-- a word that the tables alone decide, or a good one -/
def vx_ot (w : Cond) : Bool := w.onTables || goodWord w
theorem vx_ot_at {args a' : Array Value} {s U : State} {w : Cond} (hW : s.WarmedH U.vm) (hvm : s.vm = U.vm) (hg : vx_ot w = true) (h : w.before args s = true) : w.before a' U = true := by
  simp only [vx_ot, Bool.or_eq_true] at hg
  rcases hg with hg | hg
  · exact va_tabs hg hvm h
  · exact word_at hW (good_of_word hg) h
/-- a list's words: the good ones out of the method's own list, the others by premises of their own -/
theorem vx_hat {args : Array Value} {s : State} {L B : List Cond} (h1 : ∀ w ∈ L.filter goodWord, w.before args s = true) (h2 : ∀ w ∈ L.filter (fun w => !goodWord w), w ∈ B) (h3 : ∀ w ∈ B, w.before args s = true) : ∀ w ∈ L, w.before args s = true := by
  intro w hw
  by_cases g : goodWord w = true
  · exact h1 w (List.mem_filter.mpr ⟨hw, g⟩)
  · refine h3 w (h2 w (List.mem_filter.mpr ⟨hw, ?_⟩))
    show (!goodWord w) = true
    cases hgw : goodWord w
    · rfl
    · exact absurd hgw g
theorem vx_c {args : Array Value} {s : State} {w : Cond} {B : List Cond} (h : w.before args s = true) (t : ∀ w ∈ B, w.before args s = true) : ∀ w' ∈ w :: B, w'.before args s = true := fun w' h' => (List.mem_cons.mp h').elim (fun e => by rw [e]; exact h) (t w')
theorem vx_n {args : Array Value} {s : State} : ∀ w ∈ ([] : List Cond), w.before args s = true := fun _ h => nomatch h
theorem vx_own {args : Array Value} {s : State} {L : List Cond} (h1 : ∀ w ∈ L.filter vx_no, w.before args s = true)
    (hU : (Cond.isRef (.static Bundle.tN "UNASSIGNED_STACK" Bundle.steD)).before args s = true) (hN : (Cond.isRef (.static Bundle.tN "SUPPRESSED_SENTINEL" Bundle.listD)).before args s = true)
    (lU : (Cond.laysStatic Bundle.tN "UNASSIGNED_STACK" Bundle.steD).before args s = true) (lN : (Cond.laysStatic Bundle.tN "SUPPRESSED_SENTINEL" Bundle.listD).before args s = true) : ∀ w ∈ L, w.before args s = true := by
  intro w hw
  by_cases e1 : w = .isRef (.static Bundle.tN "UNASSIGNED_STACK" Bundle.steD)
  · rw [e1]; exact hU
  · by_cases e2 : w = .isRef (.static Bundle.tN "SUPPRESSED_SENTINEL" Bundle.listD)
    · rw [e2]; exact hN
    · by_cases e3 : w = .laysStatic Bundle.tN "UNASSIGNED_STACK" Bundle.steD
      · rw [e3]; exact lU
      · by_cases e4 : w = .laysStatic Bundle.tN "SUPPRESSED_SENTINEL" Bundle.listD
        · rw [e4]; exact lN
        · exact h1 w (List.mem_filter.mpr ⟨hw, by unfold vx_no; rw [decide_eq_true e1, decide_eq_true e2, decide_eq_true e3, decide_eq_true e4]; rfl⟩)
/-- where a static field lies, its class's statics cell in H -/
def vx_L (C n d : String) (A : Nat → Prop) (U : State) (H : Heap) : Prop := ∃ (c : ClassId) (k : Class) (i : Nat) (f : Field) (a : Nat) (cell : Cell), U.vm.findClass C = some c ∧ U.fieldFound? C n d = some (c, k, i, f) ∧ f.isStatic = true ∧ k.statics = some a ∧ H[a]? = some cell ∧ cell.vm.isStatics = true ∧ cell.cls = c ∧ f.slot < cell.slots.size ∧ k.staticTypes[f.slot]? = some f.type ∧ ¬ A a
theorem vx_L.moved {C n d : String} {A : Nat → Prop} {u U : State} {H : Heap} (hvm : u.vm.Alike U.vm) (h : vx_L C n d A u H) : vx_L C n d A U H := by
  obtain ⟨c, k, i, f, a, cell, h1, h2, h3, h4, h5, h6, h7, h8, h9, h10⟩ := h
  obtain ⟨k', hi', he⟩ := State.fieldFound?_setVm hvm h2
  exact ⟨c, k', i, f, a, cell, by rw [hvm.findClass]; exact h1, hi', h3, by rw [he]; exact h4, h5, h6, h7, h8, by rw [he]; exact h9, h10⟩
theorem vx_L.kept {C n d : String} {A : Nat → Prop} {U : State} {H H1 : Heap} (h : vx_L C n d A U H) (hq : ∀ a : Nat, a < H.size → ¬ A a → H1[a]? = H[a]?) : vx_L C n d A U H1 := by
  obtain ⟨c, k, i, f, a, cell, h1, h2, h3, h4, h5, h6, h7, h8, h9, h10⟩ := h
  exact ⟨c, k, i, f, a, cell, h1, h2, h3, h4, by rw [hq a (Array.getElem?_eq_some_iff.mp h5).1 h10]; exact h5, h6, h7, h8, h9, h10⟩
theorem vx_L.narrow {C n d : String} {A B : Nat → Prop} {U : State} {H : Heap} (h : vx_L C n d A U H) (hAB : ∀ q, B q → A q) : vx_L C n d B U H := by
  obtain ⟨c, k, i, f, a, cell, h1, h2, h3, h4, h5, h6, h7, h8, h9, h10⟩ := h
  exact ⟨c, k, i, f, a, cell, h1, h2, h3, h4, h5, h6, h7, h8, h9, fun z => h10 (hAB _ z)⟩
theorem vx_L.word {C n d : String} {A : Nat → Prop} {s : State} {args : Array Value} (h : vx_L C n d A s s.heap) : (Cond.laysStatic C n d).before args s = true := by
  obtain ⟨c, k, i, f, a, cell, h1, h2, h3, h4, h5, h6, h7, h8, h9, -⟩ := h
  show (Cond.laysStatic C n d).holds args s none s [] = true
  exact Cond.laysStatic_of h1 h2 h3 h4 h5 h6 h7 h8 h9
/-- .. and what it holds: null or some reference -/
def vx_Zq (C n d : String) (A : Nat → Prop) (U : State) (H : Heap) : Prop := va_Zq C n d A U H ∧ vx_L C n d A U H
theorem vx_Zq.moved {C n d : String} {A : Nat → Prop} {u U : State} {H : Heap} (hvm : u.vm.Alike U.vm) (h : vx_Zq C n d A u H) : vx_Zq C n d A U H := ⟨va_Zq.moved hvm h.1, vx_L.moved hvm h.2⟩
theorem vx_Zq.kept {C n d : String} {A : Nat → Prop} {U : State} {H H1 : Heap} (h : vx_Zq C n d A U H) (hq : ∀ a : Nat, a < H.size → ¬ A a → H1[a]? = H[a]?) : vx_Zq C n d A U H1 := ⟨va_Zq.kept h.1 hq, vx_L.kept h.2 hq⟩
theorem vx_Zq.narrow {C n d : String} {A B : Nat → Prop} {U : State} {H : Heap} (h : vx_Zq C n d A U H) (hAB : ∀ q, B q → A q) : vx_Zq C n d B U H := ⟨va_Zq.narrow h.1 hAB, vx_L.narrow h.2 hAB⟩
theorem vx_Zqof {args : Array Value} {s : State} {C n d : String} {A : Nat → Prop} (hl : (Cond.laysStatic C n d).before args s = true) (hini : (Cond.initialized C).before args s = true) (h : (Cond.isRef (.static C n d)).before args s = true) (hA : ∀ a : Nat, a < s.heap.size → ¬ A a) : vx_Zq C n d A s s.heap := by
  refine ⟨va_Zqof hl hini h hA, ?_⟩
  obtain ⟨c, k, i, f, a, cell, h1, h2, h3, h4, h5, h6, h7, h8, h9⟩ := Cond.laysStatic_spec hl
  exact ⟨c, k, i, f, a, cell, h1, h2, h3, h4, h5, h6, h7, h8, h9, hA a (Array.getElem?_eq_some_iff.mp h5).1⟩
theorem vx_isRef {C n d : String} {v : Value} {A : Nat → Prop} {s : State} {args : Array Value} (h : va_Z C n d v A s s.heap) (hv : v.isRef = true) : (Cond.isRef (.static C n d)).before args s = true := by
  obtain ⟨cf, kf, fi, f, a, cell, h1, h2, h3, h4, h5, h6, h7, -⟩ := h
  have he : (Term.static C n d).eval args s none [] s = some v := by
    simp [Term.eval, State.fieldNamed?, h1, h2, h4, h5, h6, h7]
  simp only [Cond.before, Cond.holds, Cond.value, he]
  cases v <;> simp_all [Value.isRef]
theorem vx_isRefq {C n d : String} {A : Nat → Prop} {s : State} {args : Array Value} (h : va_Zq C n d A s s.heap) : (Cond.isRef (.static C n d)).before args s = true := by
  rcases h with h | ⟨t, h⟩
  · exact vx_isRef h rfl
  · exact vx_isRef h rfl
/-- the same frame, seen from here: as if the method were called anew in this heap -/
theorem vx_rebase {T : State} (X : Stand p l e R s m args below meth c T locs cells slots) {R' : Room} (hf : R'.frames ≤ R.frames) (hl : R'.locals ≤ R.locals) (hc : cells + R'.cells ≤ R.cells) (hs : slots + R'.slots ≤ R.slots) :
    Stand p l e R' ((T.setVm s.vm).setFrames (.invoking m args :: below)) m args below meth c T [] 0 0 := by
  have htop : (T.setVm s.vm).topJava?.isSome := X.here.top
  have hF : ((T.setVm s.vm).setFrames (.invoking m args :: below)).frames = .invoking m args :: below := State.frames_setFrames _ (State.cur_lt_of_top htop)
  obtain ⟨g₀, hg0⟩ := Option.isSome_iff_exists.mp htop
  obtain ⟨r, hr⟩ := State.topJava?_eq_some.mp hg0
  have hl9 : e.platform.stackLimits (T.setVm s.vm).me = e.platform.stackLimits s.me := X.limits
  have hb9 : (T.setVm s.vm).me.stackBytes = s.me.stackBytes := X.bytes
  refine ⟨X.admits, X.cas, X.clock, hF, ?_, X.hears, X.method, X.code, X.here, X.tail, X.warmed, ?_, ?_, ?_⟩
  · have h := X.room
    have hU : ((T.setVm s.vm).setFrames (.invoking m args :: below)).localsInUse = s.localsInUse := by
      rw [State.localsInUse_invoking hF (meth := meth) (c := c) X.method X.code, State.localsInUse_invoking X.frames X.method X.code]
    simp only [State.hasRoom, Bool.and_eq_true, decide_eq_true_eq] at h ⊢
    obtain ⟨⟨⟨⟨h1, h2, h3, h4, h5, h6⟩, h7⟩, h8⟩, h9⟩ := h
    rw [X.frames, List.length_cons] at h2 h3
    have q1 := X.heapSize
    have q2 := X.used
    simp only [hF, hU, List.length_cons, State.stackLimits_setFrames, State.stackBytes_setFrames, hl9, hb9]
    refine ⟨⟨⟨⟨by omega, by omega, by omega, by omega, by omega, h6⟩, ?_⟩, ?_⟩, X.book⟩
    · show T.heap.size + R'.cells ≤ e.platform.maxCells
      omega
    · show T.slotsUsed + R'.slots ≤ e.platform.maxSlots
      omega
  · rw [State.stackLimits_setFrames]; rfl
  · rw [State.stackBytes_setFrames]; rfl
  · refine ⟨?_, Nat.le_refl _, Nat.le_refl _, ?_, ?_, fun a c9 h9 => ⟨c9, h9, rfl, rfl, fun _ _ => rfl⟩⟩
    · obtain ⟨t, ht, -⟩ := State.frames_cons hr
      show T.setVm s.vm = { ((T.setVm s.vm).setFrames (.invoking m args :: below)).setFrames (T.setVm s.vm).frames with heap := T.heap, slotsUsed := T.slotsUsed }
      rw [State.setFrames_setFrames, State.setFrames_self ht]
      rfl
    · show T.slotsUsed = T.slotsUsed + ((T.heap.toList.drop T.heap.size).map (·.slots.size)).sum
      rw [List.drop_eq_nil_of_le (Nat.le_of_eq Array.length_toList)]
      rfl
    · show ((T.heap.toList.drop T.heap.size).map (·.slots.size)).sum ≤ 0
      rw [List.drop_eq_nil_of_le (Nat.le_of_eq Array.length_toList)]
      exact Nat.le_refl _
/-- 'throw new E()': new; dup; invokespecial; athrow -/
theorem vx_throw0 {cc : ByteArray} {pc : Nat} (hexec : p.tables.exec = Jvm.exec) (hb : c.code = cc) (hl : l.stackTraces = false) {own cls : String} {names : List String} {ik ic mc ms : Nat} {A : Nat → Prop}
    (hown : s.vm.findClass own = some m.cls) (hcls : Bundle.fit cls = true) (hnames : ∀ n ∈ names, Bundle.fit n = true)
    (hk : (Cond.classLink own ik cls).before args s = true) (hini : (Cond.initialized cls).before args s = true) (hat : ∀ w ∈ vx_at0 own ic cls names, w.before args s = true)
    (hgood : ∀ w ∈ Cond.classLink own ik cls :: Cond.initialized cls :: vx_at0 own ic cls names, vx_ot w = true)
    (hU : vx_Zq Bundle.tN "UNASSIGNED_STACK" Bundle.steD A s s.heap) (hN : vx_Zq Bundle.tN "SUPPRESSED_SENTINEL" Bundle.listD A s s.heap) (hS : va_S A s.heap H locs) (hsize : ls.size = c.maxLocals)
    (d0 : decode cc pc = .ok (.new ik, 3)) (d3 : decode cc (pc + 3) = .ok (.dup, 1)) (d4 : decode cc (pc + 4) = .ok (.invokespecial ic, 3)) (d7 : decode cc (pc + 7) = .ok (.athrow, 1))
    (hout : ∀ x ∈ c.exceptionTable.toList, covers x (pc + 7) = false)
    (hRframes : names.length + 3 < R.frames) (hRlocals : (rest.map fun v => v.category).sum + (13 * (names.length + 1) + 42) ≤ R.locals) (hRcells : cells + 1 ≤ R.cells) (hRslots : slots + 6 ≤ R.slots) (hlocks : meth.locks = false)
    (hx : ∀ t : State, s.vm.Alike t.vm → H.size ≤ t.heap.size → (∀ q : Nat, q < H.size → t.heap[q]? = H[q]?) → XC cls s t)
    (hf : ∀ z ∈ locs, free z.base) (hc : cells + 1 ≤ mc) (hs : slots + 6 ≤ ms) :
    W p l e R s m args below meth c H locs cells slots (vx_MQ below Qc XC args s mc ms free) (F0 m pc ls rest) := by
  intro T hT X
  have htr : e.platform.stackTraces = false := (show e.platform.stackTraces = l.stackTraces by rw [X.admits.platform]).trans hl
  have Y := vx_rebase X (R' := { frames := R.frames, locals := R.locals, cells := 1, slots := 6 }) (Nat.le_refl _) (Nat.le_refl _) hRcells hRslots
  obtain ⟨s', hA⟩ : ∃ z, z = (T.setVm s.vm).setFrames (.invoking m args :: below) := ⟨_, rfl⟩
  rw [← hA] at Y
  have hvm : s'.vm = s.vm := by rw [hA]; rfl
  have hhp : s'.heap = H := by rw [hA]; exact hT
  have hW0 : s.WarmedH s'.vm := by rw [hvm]; exact State.WarmedH.refl s
  have hat' : ∀ w ∈ vx_at0 own ic cls names, w.before args s' = true := fun w hw => vx_ot_at hW0 hvm.symm (hgood w (List.mem_cons_of_mem _ (List.mem_cons_of_mem _ hw))) (hat w hw)
  have hk' : (Cond.classLink own ik cls).before args s' = true := vx_ot_at hW0 hvm.symm (hgood _ List.mem_cons_self) hk
  have hini' : (Cond.initialized cls).before args s' = true := vx_ot_at hW0 hvm.symm (hgood _ (List.mem_cons_of_mem _ List.mem_cons_self)) hini
  have hU' : vx_Zq Bundle.tN "UNASSIGNED_STACK" Bundle.steD A s' s'.heap := by rw [hhp]; exact vx_Zq.moved hW0.alike (hU.kept hS.2.1)
  have hN' : vx_Zq Bundle.tN "SUPPRESSED_SENTINEL" Bundle.listD A s' s'.heap := by rw [hhp]; exact vx_Zq.moved hW0.alike (hN.kept hS.2.1)
  have h : ∀ w ∈ Bundle.ownAtoms0 own ic cls names, w.before args s' = true := vx_own hat' (vx_isRefq hU'.1) (vx_isRefq hN'.1) hU'.2.word hN'.2.word
  have hown' : s'.vm.findClass own = some m.cls := by rw [hvm]; exact hown
  have hins : (Cond.instantiable cls 6).before args s' = true := h _ (by simp [Bundle.ownAtoms0])
  obtain ⟨vm₁, cX, kX, hfX, hkX, -, -, X₁, st1⟩ := Y.newCold hexec (own := own) (C := cls) (index := ik) (n := 6) hown' hk' hins hini'
    (g := F0 m pc ls rest) rfl (by rw [hb]; exact d0) (Nat.le_refl _) (Nat.le_refl _)
  generalize hT1 : (T.setVm vm₁).pushCell { cls := cX, slots := kX.instanceTypes.map defaultValue, vm := .none } = T1 at X₁ st1
  have hcat : (Value.ref T.heap.size).category = 1 := rfl
  have hcellA : T1.heap[T.heap.size]? = some (freshCell cX kX) := by rw [← hT1]; exact State.heap_pushCell_size _ _
  have d3' : decode c.code (pc + 3) = .ok (.dup, 1) := by rw [hb]; exact d3
  obtain ⟨U, hsteps, hrun, hend, hW, hsame, ce, hce, hO⟩ := X₁.ctorThrow0 hexec htr (own := own) (cls := cls) (names := names) (ic := ic) hown' hcls hnames h (fun x hx => nomatch hx) hfX hkX hcellA (by rw [hhp, hT]; exact Nat.le_refl _)
    (g := { method := m, pc := pc + 4, locals := ls, stack := .ref T.heap.size :: .ref T.heap.size :: rest, locked := none }) rfl hsize rfl rfl (rest := rest) rfl
    (by rw [hb]; exact d4) (by rw [hb]; exact d7) hout hRframes (by simp only [List.map_cons, List.sum_cons, hcat]; omega) hlocks
  obtain ⟨f1, f2⟩ := vx_frame hsame
  rw [hhp] at f1 f2
  have hWs : s.WarmedH U.vm := State.WarmedH.trans hW0 hW
  have hcl : s.vm.findClass cls = some ce.cls := by
    have h9 := hO.cls
    rw [hvm] at h9
    exact h9
  have hall : s.sameButNew ({ U with vm := s.vm } : State) locs mc ms := by
    subst hA
    obtain ⟨e1, e2⟩ := hsame
    rw [State.setFrames_setFrames] at e1
    have h2 : (T.setVm s.vm).sameButNew ({ U with vm := s.vm } : State) [] (0 + 1) (0 + 6) := ⟨e1, e2⟩
    have h3 := X.same.trans h2
    rw [List.append_nil] at h3
    exact h3.mono hc hs
  refine ⟨U, ?_, .threw T.heap.size, hrun, hend, Or.inr ⟨T.heap.size, rfl, cls, ce, locs, hx U hWs.alike f1 (fun q hq => f2 q hq (fun z hz => nomatch hz)), hce, hO.vm, hcl, hWs, hall, hf⟩⟩
  refine st1 _ ?_
  show Steps p.tables e below (T1.setTop { method := m, pc := pc + 3, locals := ls, stack := .ref T.heap.size :: rest, locked := none }) _
  jvm_step X₁.here [X₁.here.top, hexec, d3', Value.category]
  exact hsteps
/-- 'throw new E("text")': new; dup; ldc; invokespecial; athrow -/
theorem vx_throwS {cc : ByteArray} {pc : Nat} (hexec : p.tables.exec = Jvm.exec) (hb : c.code = cc) (hl : l.stackTraces = false) {own cls text : String} {names : List String} {ik is ic mc ms sa : Nat} {A : Nat → Prop}
    (hown : s.vm.findClass own = some m.cls) (hcls : Bundle.fit cls = true) (hnames : ∀ n ∈ names, Bundle.fit n = true)
    (hk : (Cond.classLink own ik cls).before args s = true) (hini : (Cond.initialized cls).before args s = true) (hstr : vk_R own is text sa s) (hat : ∀ w ∈ vx_atS own ic cls names, w.before args s = true)
    (hgood : ∀ w ∈ Cond.classLink own ik cls :: Cond.initialized cls :: vx_atS own ic cls names, vx_ot w = true)
    (hU : vx_Zq Bundle.tN "UNASSIGNED_STACK" Bundle.steD A s s.heap) (hN : vx_Zq Bundle.tN "SUPPRESSED_SENTINEL" Bundle.listD A s s.heap) (hS : va_S A s.heap H locs) (hsize : ls.size = c.maxLocals)
    (d0 : decode cc pc = .ok (.new ik, 3)) (d3 : decode cc (pc + 3) = .ok (.dup, 1)) (d4 : decode cc (pc + 4) = .ok (.ldc is, 2)) (d6 : decode cc (pc + 6) = .ok (.invokespecial ic, 3)) (d9 : decode cc (pc + 9) = .ok (.athrow, 1))
    (hout : ∀ x ∈ c.exceptionTable.toList, covers x (pc + 9) = false)
    (hRframes : names.length + 3 < R.frames) (hRlocals : (rest.map fun v => v.category).sum + (13 * (names.length + 1) + 43) ≤ R.locals) (hRcells : cells + 1 ≤ R.cells) (hRslots : slots + 6 ≤ R.slots) (hlocks : meth.locks = false)
    (hx : ∀ t : State, s.vm.Alike t.vm → H.size ≤ t.heap.size → (∀ q : Nat, q < H.size → t.heap[q]? = H[q]?) → XC cls s t)
    (hf : ∀ z ∈ locs, free z.base) (hc : cells + 1 ≤ mc) (hs : slots + 6 ≤ ms) :
    W p l e R s m args below meth c H locs cells slots (vx_MQ below Qc XC args s mc ms free) (F0 m pc ls rest) := by
  intro T hT X
  have htr : e.platform.stackTraces = false := (show e.platform.stackTraces = l.stackTraces by rw [X.admits.platform]).trans hl
  have Y := vx_rebase X (R' := { frames := R.frames, locals := R.locals, cells := 1, slots := 6 }) (Nat.le_refl _) (Nat.le_refl _) hRcells hRslots
  obtain ⟨s', hA⟩ : ∃ z, z = (T.setVm s.vm).setFrames (.invoking m args :: below) := ⟨_, rfl⟩
  rw [← hA] at Y
  have hvm : s'.vm = s.vm := by rw [hA]; rfl
  have hhp : s'.heap = H := by rw [hA]; exact hT
  have hW0 : s.WarmedH s'.vm := by rw [hvm]; exact State.WarmedH.refl s
  have hat' : ∀ w ∈ vx_atS own ic cls names, w.before args s' = true := fun w hw => vx_ot_at hW0 hvm.symm (hgood w (List.mem_cons_of_mem _ (List.mem_cons_of_mem _ hw))) (hat w hw)
  have hk' : (Cond.classLink own ik cls).before args s' = true := vx_ot_at hW0 hvm.symm (hgood _ List.mem_cons_self) hk
  have hini' : (Cond.initialized cls).before args s' = true := vx_ot_at hW0 hvm.symm (hgood _ (List.mem_cons_of_mem _ List.mem_cons_self)) hini
  have hU' : vx_Zq Bundle.tN "UNASSIGNED_STACK" Bundle.steD A s' s'.heap := by rw [hhp]; exact vx_Zq.moved hW0.alike (hU.kept hS.2.1)
  have hN' : vx_Zq Bundle.tN "SUPPRESSED_SENTINEL" Bundle.listD A s' s'.heap := by rw [hhp]; exact vx_Zq.moved hW0.alike (hN.kept hS.2.1)
  have h : ∀ w ∈ Bundle.ownAtoms own ic cls names, w.before args s' = true := vx_own hat' (vx_isRefq hU'.1) (vx_isRefq hN'.1) hU'.2.word hN'.2.word
  have hown' : s'.vm.findClass own = some m.cls := by rw [hvm]; exact hown
  have hins : (Cond.instantiable cls 6).before args s' = true := h _ (by simp [Bundle.ownAtoms])
  obtain ⟨vm₁, cX, kX, hfX, hkX, -, -, X₁, st1⟩ := Y.newCold hexec (own := own) (C := cls) (index := ik) (n := 6) hown' hk' hins hini'
    (g := F0 m pc ls rest) rfl (by rw [hb]; exact d0) (Nat.le_refl _) (Nat.le_refl _)
  generalize hT1 : (T.setVm vm₁).pushCell { cls := cX, slots := kX.instanceTypes.map defaultValue, vm := .none } = T1 at X₁ st1
  have hcat : (Value.ref T.heap.size).category = 1 := rfl
  have hcellA : T1.heap[T.heap.size]? = some (freshCell cX kX) := by rw [← hT1]; exact State.heap_pushCell_size _ _
  have d3' : decode c.code (pc + 3) = .ok (.dup, 1) := by rw [hb]; exact d3
  have d4' : decode c.code (pc + 4) = .ok (.ldc is, 2) := by rw [hb]; exact d4
  have hstr' : vk_R own is text sa s' := vk_R.warm hW0 hstr
  obtain ⟨U, hsteps, hrun, hend, hW, hsame, ce, hce, hO⟩ := X₁.ctorThrowS hexec htr (own := own) (cls := cls) (names := names) (ic := ic) hown' hcls hnames h (fun x hx => nomatch hx) hfX hkX hcellA (by rw [hhp, hT]; exact Nat.le_refl _) (msg := .ref sa) rfl
    (g := { method := m, pc := pc + 6, locals := ls, stack := .ref sa :: .ref T.heap.size :: .ref T.heap.size :: rest, locked := none }) rfl hsize rfl rfl (rest := rest) rfl
    (by rw [hb]; exact d6) (by rw [hb]; exact d9) hout hRframes (by simp only [List.map_cons, List.sum_cons, hcat]; omega) hlocks
  obtain ⟨f1, f2⟩ := vx_frame hsame
  rw [hhp] at f1 f2
  have hWs : s.WarmedH U.vm := State.WarmedH.trans hW0 hW
  have hcl : s.vm.findClass cls = some ce.cls := by
    have h9 := hO.cls
    rw [hvm] at h9
    exact h9
  have hall : s.sameButNew ({ U with vm := s.vm } : State) locs mc ms := by
    subst hA
    obtain ⟨e1, e2⟩ := hsame
    rw [State.setFrames_setFrames] at e1
    have h2 : (T.setVm s.vm).sameButNew ({ U with vm := s.vm } : State) [] (0 + 1) (0 + 6) := ⟨e1, e2⟩
    have h3 := X.same.trans h2
    rw [List.append_nil] at h3
    exact h3.mono hc hs
  refine ⟨U, ?_, .threw T.heap.size, hrun, hend, Or.inr ⟨T.heap.size, rfl, cls, ce, locs, hx U hWs.alike f1 (fun q hq => f2 q hq (fun z hz => nomatch hz)), hce, hO.vm, hcl, hWs, hall, hf⟩⟩
  refine st1 _ ?_
  show Steps p.tables e below (T1.setTop { method := m, pc := pc + 3, locals := ls, stack := .ref T.heap.size :: rest, locked := none }) _
  jvm_step X₁.here [X₁.here.top, hexec, d3', Value.category]
  exact X₁.ldcString hexec (own := own) (text := text) (index := is) (a := sa) hown' hstr'.1 hstr'.2
    (g := { method := m, pc := pc + 4, locals := ls, stack := .ref T.heap.size :: .ref T.heap.size :: rest, locked := none }) rfl d4' _ hsteps
/-- 'throw new E("text")', the text by a wide index -/
theorem vx_throwSW {cc : ByteArray} {pc : Nat} (hexec : p.tables.exec = Jvm.exec) (hb : c.code = cc) (hl : l.stackTraces = false) {own cls text : String} {names : List String} {ik is ic mc ms sa : Nat} {A : Nat → Prop}
    (hown : s.vm.findClass own = some m.cls) (hcls : Bundle.fit cls = true) (hnames : ∀ n ∈ names, Bundle.fit n = true)
    (hk : (Cond.classLink own ik cls).before args s = true) (hini : (Cond.initialized cls).before args s = true) (hstr : vk_R own is text sa s) (hat : ∀ w ∈ vx_atS own ic cls names, w.before args s = true)
    (hgood : ∀ w ∈ Cond.classLink own ik cls :: Cond.initialized cls :: vx_atS own ic cls names, vx_ot w = true)
    (hU : vx_Zq Bundle.tN "UNASSIGNED_STACK" Bundle.steD A s s.heap) (hN : vx_Zq Bundle.tN "SUPPRESSED_SENTINEL" Bundle.listD A s s.heap) (hS : va_S A s.heap H locs) (hsize : ls.size = c.maxLocals)
    (d0 : decode cc pc = .ok (.new ik, 3)) (d3 : decode cc (pc + 3) = .ok (.dup, 1)) (d4 : decode cc (pc + 4) = .ok (.ldc_w is, 3)) (d7 : decode cc (pc + 7) = .ok (.invokespecial ic, 3)) (d10 : decode cc (pc + 10) = .ok (.athrow, 1))
    (hout : ∀ x ∈ c.exceptionTable.toList, covers x (pc + 10) = false)
    (hRframes : names.length + 3 < R.frames) (hRlocals : (rest.map fun v => v.category).sum + (13 * (names.length + 1) + 43) ≤ R.locals) (hRcells : cells + 1 ≤ R.cells) (hRslots : slots + 6 ≤ R.slots) (hlocks : meth.locks = false)
    (hx : ∀ t : State, s.vm.Alike t.vm → H.size ≤ t.heap.size → (∀ q : Nat, q < H.size → t.heap[q]? = H[q]?) → XC cls s t)
    (hf : ∀ z ∈ locs, free z.base) (hc : cells + 1 ≤ mc) (hs : slots + 6 ≤ ms) :
    W p l e R s m args below meth c H locs cells slots (vx_MQ below Qc XC args s mc ms free) (F0 m pc ls rest) := by
  intro T hT X
  have htr : e.platform.stackTraces = false := (show e.platform.stackTraces = l.stackTraces by rw [X.admits.platform]).trans hl
  have Y := vx_rebase X (R' := { frames := R.frames, locals := R.locals, cells := 1, slots := 6 }) (Nat.le_refl _) (Nat.le_refl _) hRcells hRslots
  obtain ⟨s', hA⟩ : ∃ z, z = (T.setVm s.vm).setFrames (.invoking m args :: below) := ⟨_, rfl⟩
  rw [← hA] at Y
  have hvm : s'.vm = s.vm := by rw [hA]; rfl
  have hhp : s'.heap = H := by rw [hA]; exact hT
  have hW0 : s.WarmedH s'.vm := by rw [hvm]; exact State.WarmedH.refl s
  have hat' : ∀ w ∈ vx_atS own ic cls names, w.before args s' = true := fun w hw => vx_ot_at hW0 hvm.symm (hgood w (List.mem_cons_of_mem _ (List.mem_cons_of_mem _ hw))) (hat w hw)
  have hk' : (Cond.classLink own ik cls).before args s' = true := vx_ot_at hW0 hvm.symm (hgood _ List.mem_cons_self) hk
  have hini' : (Cond.initialized cls).before args s' = true := vx_ot_at hW0 hvm.symm (hgood _ (List.mem_cons_of_mem _ List.mem_cons_self)) hini
  have hU' : vx_Zq Bundle.tN "UNASSIGNED_STACK" Bundle.steD A s' s'.heap := by rw [hhp]; exact vx_Zq.moved hW0.alike (hU.kept hS.2.1)
  have hN' : vx_Zq Bundle.tN "SUPPRESSED_SENTINEL" Bundle.listD A s' s'.heap := by rw [hhp]; exact vx_Zq.moved hW0.alike (hN.kept hS.2.1)
  have h : ∀ w ∈ Bundle.ownAtoms own ic cls names, w.before args s' = true := vx_own hat' (vx_isRefq hU'.1) (vx_isRefq hN'.1) hU'.2.word hN'.2.word
  have hown' : s'.vm.findClass own = some m.cls := by rw [hvm]; exact hown
  have hins : (Cond.instantiable cls 6).before args s' = true := h _ (by simp [Bundle.ownAtoms])
  obtain ⟨vm₁, cX, kX, hfX, hkX, -, -, X₁, st1⟩ := Y.newCold hexec (own := own) (C := cls) (index := ik) (n := 6) hown' hk' hins hini'
    (g := F0 m pc ls rest) rfl (by rw [hb]; exact d0) (Nat.le_refl _) (Nat.le_refl _)
  generalize hT1 : (T.setVm vm₁).pushCell { cls := cX, slots := kX.instanceTypes.map defaultValue, vm := .none } = T1 at X₁ st1
  have hcat : (Value.ref T.heap.size).category = 1 := rfl
  have hcellA : T1.heap[T.heap.size]? = some (freshCell cX kX) := by rw [← hT1]; exact State.heap_pushCell_size _ _
  have d3' : decode c.code (pc + 3) = .ok (.dup, 1) := by rw [hb]; exact d3
  have d4' : decode c.code (pc + 4) = .ok (.ldc_w is, 3) := by rw [hb]; exact d4
  have hstr' : vk_R own is text sa s' := vk_R.warm hW0 hstr
  obtain ⟨U, hsteps, hrun, hend, hW, hsame, ce, hce, hO⟩ := X₁.ctorThrowS hexec htr (own := own) (cls := cls) (names := names) (ic := ic) hown' hcls hnames h (fun x hx => nomatch hx) hfX hkX hcellA (by rw [hhp, hT]; exact Nat.le_refl _) (msg := .ref sa) rfl
    (g := { method := m, pc := pc + 7, locals := ls, stack := .ref sa :: .ref T.heap.size :: .ref T.heap.size :: rest, locked := none }) rfl hsize rfl rfl (rest := rest) rfl
    (by rw [hb]; exact d7) (by rw [hb]; exact d10) hout hRframes (by simp only [List.map_cons, List.sum_cons, hcat]; omega) hlocks
  obtain ⟨f1, f2⟩ := vx_frame hsame
  rw [hhp] at f1 f2
  have hWs : s.WarmedH U.vm := State.WarmedH.trans hW0 hW
  have hcl : s.vm.findClass cls = some ce.cls := by
    have h9 := hO.cls
    rw [hvm] at h9
    exact h9
  have hall : s.sameButNew ({ U with vm := s.vm } : State) locs mc ms := by
    subst hA
    obtain ⟨e1, e2⟩ := hsame
    rw [State.setFrames_setFrames] at e1
    have h2 : (T.setVm s.vm).sameButNew ({ U with vm := s.vm } : State) [] (0 + 1) (0 + 6) := ⟨e1, e2⟩
    have h3 := X.same.trans h2
    rw [List.append_nil] at h3
    exact h3.mono hc hs
  refine ⟨U, ?_, .threw T.heap.size, hrun, hend, Or.inr ⟨T.heap.size, rfl, cls, ce, locs, hx U hWs.alike f1 (fun q hq => f2 q hq (fun z hz => nomatch hz)), hce, hO.vm, hcl, hWs, hall, hf⟩⟩
  refine st1 _ ?_
  show Steps p.tables e below (T1.setTop { method := m, pc := pc + 3, locals := ls, stack := .ref T.heap.size :: rest, locked := none }) _
  jvm_step X₁.here [X₁.here.top, hexec, d3', Value.category]
  exact X₁.ldcStringW hexec (own := own) (text := text) (index := is) (a := sa) hown' hstr'.1 hstr'.2
    (g := { method := m, pc := pc + 4, locals := ls, stack := .ref T.heap.size :: .ref T.heap.size :: rest, locked := none }) rfl d4' _ hsteps
end Ends
section Bodies
variable {l : Launch}
theorem vx_ofW {y : MethodName} {ws ws' : List Cond} {rm : Room} {Pc : Array Value → State → Prop} {Qc : Array Value → State → Outcome → State → Prop} {XC : String → State → State → Prop} {mc ms : Nat} {free : Addr → Prop} {cc : ByteArray} {maxL : Nat} {ret : Option FieldType}
    (hy : plainName y.cls = true) (hw : ws = Cond.code y cc maxL ret :: ws')
    (body : ∀ p e s m args below meth c s₁, BodyLoose p l y (headSpec ws rm) cc maxL ret e s m args below meth c s₁ → c.maxLocals = maxL → (∀ x ∈ c.exceptionTable.toList, False) → Pc args s →
      W p l e (headSpec ws rm).room s m args below meth c s.heap [] 0 0 (vx_MQ below Qc XC args s mc ms free) (entryFrame m args maxL)) : vx_Met l y ws rm Pc Qc XC mc ms free := by
  refine MetFree.of_bodyS (code := cc) (maxLocals := maxL) (ret := ret) hy ?_ ?_
  · intro args s m h hn
    obtain ⟨meth, c, h1, h2, h3, h4, h5, h6, -, -⟩ := Cond.code_spec hn (atoms_spec (ws := ws) h _ (by rw [hw]; exact List.mem_cons_self))
    exact ⟨meth, c, h1, h2, h3, h4, h5, h6⟩
  · intro p e s m args below meth c s₁ B hml hP _
    have hh0 : s₁.heap = s.heap := by rw [B.state]; rfl
    have ht : ∀ x ∈ c.exceptionTable.toList, False := by
      obtain ⟨meth9, c9, h1, h2, -, -, -, -, h7, -⟩ := Cond.code_spec B.named (atoms_spec (ws := ws) B.pre _ (by rw [hw]; exact List.mem_cons_self))
      cases Option.some.inj (h1.symm.trans B.method)
      cases Option.some.inj (h2.symm.trans (Stand.of_body B).code)
      intro x hx
      rw [Array.isEmpty_iff.mp h7] at hx
      cases hx
    obtain ⟨t, a1, o, b1, b2, b3⟩ := body p e s m args below meth c s₁ B hml ht hP s₁ hh0 (Stand.of_body B)
    exact ⟨t, o, a1, b1, b2, b3⟩
/-- the table of a body with handlers -/
theorem vx_table {p : Program} {x y : MethodName} {S : Spec} {cc bytes : ByteArray} {maxL maxL' : Nat} {ret ret' : Option FieldType} {e : Env} {s s₁ : State} {m : MethodId} {args : Array Value} {below : List Frame} {meth : Method} {c : Code} {hh : List (Nat × Nat × Nat × Nat)}
    (B : BodyLoose p l y S cc maxL ret e s m args below meth c s₁) (h : (Cond.codeWith y bytes maxL' ret' hh).before args s = true) : c.exceptionTable.toList = tableOf hh := by
  obtain ⟨m9, meth9, c9, hn9, h1, h2, -, -, h6, -⟩ := Cond.codeWith_spec h
  cases Option.some.inj (hn9.symm.trans B.named)
  cases Option.some.inj (h1.symm.trans B.method)
  cases Option.some.inj (h2.symm.trans (Stand.of_body B).code)
  rw [← h6, table_eq]
end Bodies
end VXA
/-! ===== END ===== -/
/-! ===== BEGIN a static call of a method with an exception table ===== -/
section VXS
variable {p : Program} {l : Launch} {e : Env} {R : Room} {s : State} {m : MethodId} {args : Array Value} {below : List Frame} {meth : Method} {c : Code} {T : State} {H : Heap} {locs : List Loc} {cells slots : Nat}
abbrev vx_CSW (R : Room) (s : State) (args : Array Value) (own : String) (index : Nat) (y : MethodName) (bytes : ByteArray) (maxL : Nat) (ret : Option FieldType) (hh : List (Nat × Nat × Nat × Nat)) (ws : List Cond) (rm : Room) (mc ms n : Nat) : Prop :=
  (rm.cells = mc ∧ rm.slots = ms ∧ rm.frames + 1 ≤ R.frames ∧ 8 + (maxL + 11) + rm.locals ≤ R.locals ∧ (∀ w ∈ ws, ∀ (a' : Array Value) (U : State), s.WarmedH U.vm → w.before a' U = true) ∧ Cond.codeWith y bytes maxL ret hh ∈ ws) ∧
  (Cond.codeWith y bytes maxL ret hh).before args s = true ∧ (Cond.initialized y.cls).before args s = true ∧ (y.cls ≠ "java/lang/invoke/MethodHandle" ∧ y.cls ≠ "java/lang/invoke/VarHandle") ∧
  (∀ sig, parseMethodDescriptor y.desc = some sig → n = sig.parameters.length) ∧ (Cond.methodLink own index y).before args s = true ∧ (Cond.static y).before args s = true
theorem vx_cwSW {own : String} {index maxL mc ms : Nat} {y : MethodName} {bytes : ByteArray} {ret : Option FieldType} {hh : List (Nat × Nat × Nat × Nat)} {Ts ws ws' : List Cond} {rm : Room} (n : Nat) (ht : ∀ w ∈ Ts, w.before args s = true) (hT : GoodIn Ts (va_wsS own index y ws)) (hw : ws = Cond.codeWith y bytes maxL ret hh :: ws') (hrc : rm.cells = mc) (hrs : rm.slots = ms)
    (hd : y.cls ≠ "java/lang/invoke/MethodHandle" ∧ y.cls ≠ "java/lang/invoke/VarHandle" ∧ (parseMethodDescriptor y.desc).map (fun d => d.parameters.length) = some n) (hR : rm.frames + 1 ≤ R.frames ∧ 8 + (maxL + 11) + rm.locals ≤ R.locals) :
    vx_CSW R s args own index y bytes maxL ret hh ws rm mc ms n := by
  have ok : ∀ w ∈ va_wsS own index y ws, w.before args s = true := fun w h => ht w (hT w h).1
  have hG : GoodIn Ts ws := fun w h => hT w (by unfold va_wsS; exact List.mem_append_right _ h)
  have hc : Cond.codeWith y bytes maxL ret hh ∈ ws := by rw [hw]; exact List.mem_cons_self
  refine ⟨⟨hrc, hrs, hR.1, hR.2, pay_in ht hG, hc⟩, ht _ (hG _ hc).1, ok _ (by simp [va_wsS]), ⟨hd.1, hd.2.1⟩, fun sig h => ?_, ok _ (by simp [va_wsS]), ok _ (by simp [va_wsS])⟩
  have h2 := hd.2.2
  rw [h] at h2
  exact (Option.some.inj h2).symm
theorem vx_callSW (X : Stand p l e R s m args below meth c T locs cells slots) (hexec : p.tables.exec = Jvm.exec) {own : String} {index : Nat} {y : MethodName} {bytes : ByteArray} {maxL : Nat} {ret : Option FieldType} {hh : List (Nat × Nat × Nat × Nat)}
    (hown : s.vm.findClass own = some m.cls) (hlink : (Cond.methodLink own index y).before args s = true) (hstat : (Cond.static y).before args s = true) (hinit : (Cond.initialized y.cls).before args s = true)
    (hcode : (Cond.codeWith y bytes maxL ret hh).before args s = true) (hy : y.cls ≠ "java/lang/invoke/MethodHandle" ∧ y.cls ≠ "java/lang/invoke/VarHandle")
    {W9 : Nat} {Pre : Pt → Array Value → Prop} {Post : Pt → Array Value → Option Value → Pt → Prop} (hK : Back l R p e below s args y 3 W9 Pre Post)
    {g : JFrame} (hg : g.method = m) (hsize : g.locals.size = c.maxLocals) {argsL rest : List Value} (hlen : ∀ sig, parseMethodDescriptor y.desc = some sig → argsL.length = sig.parameters.length)
    (hstack : g.stack = argsL.reverse ++ rest) (hW : 2 * g.monitorRoom + (rest.map fun v => v.category).sum ≤ W9) (hdg : decode c.code g.pc = .ok (.invokestatic index, 3))
    (hpre : ∀ vm₁, s.WarmedH vm₁ → Pre ⟨T.setVm vm₁, locs, cells, slots⟩ argsL.toArray) :
    ∃ (v : Option Value) (vm₁ : Vm) (B : Pt), s.WarmedH vm₁ ∧ Stand p l e R s m args below meth c B.U B.locs B.cells B.slots ∧ Post ⟨T.setVm vm₁, locs, cells, slots⟩ argsL.toArray v B ∧
      ∀ target, Steps p.tables e below (B.U.setTop { g with pc := g.pc + 3, stack := v.toList ++ rest }) target → Steps p.tables e below (T.setTop g) target := by
  obtain ⟨mk, methM, cM, hnamed, hmethM, -, -, -, -, -, -, hsigM⟩ := Cond.codeWith_spec hcode
  have hstatic : methM.isStatic = true := Cond.static_spec hnamed hmethM hstat
  obtain ⟨kP, hkP, -⟩ := className_of_methodNamed hnamed
  have hinitP : kP.init = .initialized := Cond.initialized_spec (findClass_of_methodNamed hnamed) hkP hinit
  obtain ⟨vm₁, X₁, hstep₁⟩ := X.invokestatic hexec hown hlink hnamed hmethM hstatic hkP hinitP hy (g := g) hg (argsL := argsL) (rest := rest) (hlen _ hsigM) hstack hdg
  obtain ⟨v, B, X', hpost, hsteps⟩ := hK m meth c ⟨T.setVm vm₁, locs, cells, slots⟩ { g with stack := rest } (.invokestatic index) mk argsL.toArray X₁ hg hsize hdg hW (X₁.named hnamed) (hpre vm₁ X₁.warmed)
  exact ⟨v, vm₁, B, X₁.warmed, X', hpost, fun target h => hstep₁ _ fun acts => by rw [doInvoke_state]; exact hsteps.trans h⟩
theorem vx_runSW {y : MethodName} {bytes cc : ByteArray} {maxL nL mc ms n index : Nat} {ret : Option FieldType} {hh : List (Nat × Nat × Nat × Nat)} {ws : List Cond} {rm : Room} {Pc : Array Value → State → Prop} {Qc : Array Value → State → Outcome → State → Prop} {free : Addr → Prop} {Ts : List Cond} {own : String} {As rest : List Value} {g : JFrame}
    (S : CallFix p m c cc nL s args Ts own) (hM : Met l y ws rm Pc Qc mc ms free) (cw : vx_CSW R s args own index y bytes maxL ret hh ws rm mc ms n) (hp : PreS s H Pc As)
    (hg : g.method = m) (hn : As.length = n) (hsize : g.locals.size = nL) (hstack : g.stack = As.reverse ++ rest) (hW : 2 * g.monitorRoom + (rest.map fun v => v.category).sum ≤ 8) (hdg : decode cc g.pc = .ok (.invokestatic index, 3)) (hf : cells + mc ≤ R.cells ∧ slots + ms ≤ R.slots) :
    va_Run p l e R s m args below meth c H locs cells slots mc ms g rest (Qc As.toArray) (free) := by
  obtain ⟨⟨hrc, hrs, hfr, hlo, hws, hcw⟩, hcode, hini, hy, hlen, hl, hstt⟩ := cw
  have hK : Back l R p e below s args y 3 8 (PreOf R mc ms Pc) (PostOf Qc mc ms free) := va_backW (hh := hh) (bytes := bytes) (maxL := maxL) (ret := ret) hM hp.1 hrc hrs hfr hlo hws hcw (fun a' U hW => word_at hW (Or.inl (by first | rfl | simp [Cond.onTables, Cond.keeps, Cond.steady])) hini)
  obtain ⟨hx, hb, hml, ho, -⟩ := S
  intro T hT X
  obtain ⟨v, vm₁, ⟨U', l2, c2, s2⟩, hW₁, X', ⟨g', mk, t, L, e1, e2, hq, h1, hL, h2, h3⟩, st⟩ := vx_callSW X hx (hh := hh) (bytes := bytes) (maxL := maxL) (ret := ret) ho hl hstt hini hcode hy hK hg (hsize.trans hml.symm) (argsL := As) (rest := rest) (fun sig h => hn.trans (hlen sig h)) hstack hW (by rw [hb]; exact hdg)
    (fun vm₁ hW₁ => ⟨hf.1, hf.2, hp.2 (T.setVm vm₁) hT hW₁⟩)
  dsimp only [Pt.U, Pt.locs, Pt.cells, Pt.slots] at X' e1 e2 h1 h2 h3 st
  subst h1; subst h2; subst h3
  exact ⟨v, (T.setVm vm₁).calling g' mk As.toArray, t, U', L, hT, X', hL, e1, e2, hq, st⟩
/-- not caught here, past rows that name other classes: it goes on to the caller -/
theorem vx_outP {p : Program} {l : Launch} {e : Env} {R : Room} {s : State} {m : MethodId} {args : Array Value} {below : List Frame} {meth : Method} {c : Code} {H : Heap} {locs : List Loc} {cells slots : Nat} {free : Addr → Prop} {ls : Array Slot} {rest : List Value} {Qc : Array Value → State → Outcome → State → Prop} {XC : String → State → State → Prop}
    {pc : Nat} {own E : String} {ce : Cell} {q : Addr} {mc ms : Nat} (hown : s.vm.findClass own = some m.cls) (hlocks : meth.locks = false)
    (hpass : ∀ z ∈ c.exceptionTable.toList, covers z pc = false ∨ (z.catchType ≠ 0 ∧ ∃ nm : String, (Cond.classLink own z.catchType nm).before args s = true ∧ va_Nc E nm s)) (hcell : H[q]? = some ce) (hv : ce.vm = .none) (hcl : s.vm.findClass E = some ce.cls)
    (hx : ∀ t : State, t.heap = H → s.vm.Alike t.vm → XC E s t) (hf : ∀ z ∈ locs, free z.base) (hc : cells ≤ mc) (hs : slots ≤ ms) :
    vx_W p l e R s m args below meth c H locs cells slots (vx_MQ below Qc XC args s mc ms free) (F0 m pc ls rest) q := by
  intro T hT X
  have hpl : e.platform.magicAccessors = ({} : Platform).magicAccessors := by rw [X.admits.platform]
  obtain ⟨vm', hW', X', st⟩ := X.outThrough hlocks q (g := F0 m pc ls rest) rfl rfl rfl (cell := ce) (by rw [hT]; exact hcell) (by rw [hv]; rfl)
    (by obtain ⟨k9, h9, -⟩ := Vm.findClass_spec hcl; exact ⟨k9, h9⟩) (fun z hz => by
      rcases hpass z hz with h | ⟨hz0, nm, hl1, hn1⟩
      · exact Or.inl h
      · obtain ⟨c6, hc6, hcl6⟩ := Cond.classLink_spec hown hl1 e.platform hpl
        obtain ⟨a8, b8, h1, h2, h3⟩ := hn1
        cases Option.some.inj (h1.symm.trans hcl)
        cases Option.some.inj (h2.symm.trans hc6)
        exact Or.inr ⟨hz0, _, hcl6, h3⟩)
  obtain ⟨g₀, hfr⟩ := X'.frames_eq
  have hcell9 : ((T.setVm vm').setFrames (.throwing q :: below)).heap[q]? = some ce := by
    show T.heap[q]? = some ce
    rw [hT]; exact hcell
  have hend : Ended ((T.setVm vm').setFrames (.throwing q :: below)) below (.threw q) := State.frames_setFrames _ (State.cur_lt_of_frames hfr)
  refine ⟨(T.setVm vm').setFrames (.throwing q :: below), ?_, .threw q, X'.here.running, hend, Or.inr ⟨q, rfl, E, ce, locs, hx _ hT (X'.ends _).1.alike, hcell9, hv, hcl, (X'.ends _).1, (X'.ends _).2.mono hc hs, hf⟩⟩
  rw [X.pushThrowing_eq]
  exact st
/-- a thing of a world lies in the heap -/
theorem vx_lt {D : va_G} {cl : List vw_C} {ws : va_W} {H1 : Heap} (h : va_P D cl ws H1) {k : Nat} {q : Nat × va_E} (hk : ws[k]? = some q) : q.1 < H1.size := (h k q hk).lt
end VXS
/-! ===== END ===== -/
/-! ===== BEGIN methods with a table of their own: called by a name, returning or throwing ===== -/
section VXH
/-! vx_backW, vx_callVX, vx_callSX, vx_callVW, vx_runVW, vx_runVX, vx_runSX, vx_ofWH follow the same proofs as their sisters above (Free/Laws.lean, Shelf42/LK1.lean); vx_outP calls Shelf42/NT130.lean (outThrough). -/
section
variable {l : Launch} {R : Room} {p : Program} {e : Env} {below : List Frame} {s : State} {sargs : Array Value} {y : MethodName} {len W9 : Nat}
theorem vx_backW {ws : List Cond} {rm : Room} {Pc : Array Value → State → Prop} {Qc : Array Value → State → Outcome → State → Prop} {XC : String → State → State → Prop} {mc ms : Nat} {free : Addr → Prop} {bytes : ByteArray} {maxL : Nat} {ret : Option FieldType} {hh : List (Nat × Nat × Nat × Nat)}
    (hM : vx_Met l y ws rm Pc Qc XC mc ms free) (hblind : FrameBlind Pc) (hrc : rm.cells = mc) (hrs : rm.slots = ms)
    (hframes : rm.frames + 1 ≤ R.frames) (hlocals : W9 + (maxL + 11) + rm.locals ≤ R.locals)
    (hws : ∀ w ∈ ws, ∀ a' U, s.WarmedH U.vm → w.before a' U = true) (hcode : Cond.codeWith y bytes maxL ret hh ∈ ws) (hinit : ∀ a' U, s.WarmedH U.vm → (Cond.initialized y.cls).before a' U = true) :
    vx_Back l R p e below s sargs y len W9 (PreOf R mc ms Pc) (PostOf Qc mc ms free) (vx_Post XC mc ms free) := by
  intro m meth c A g ig mk a X hg hsize hdg hW hn hp
  have h1 : (headSpec ws rm).pre.before a A.U = true := atoms_intro fun w hw => hws w hw _ _ X.warmed
  have h2 : (Cond.codeWith y bytes maxL ret hh).before a A.U = true := hws _ hcode _ _ X.warmed
  have h3 : (Cond.initialized y.cls).before a A.U = true := hinit _ _ X.warmed
  have h4 : A.cells + (headSpec ws rm).room.cells ≤ R.cells := by rw [show (headSpec ws rm).room.cells = mc from hrc]; exact hp.1
  have h5 : A.slots + (headSpec ws rm).room.slots ≤ R.slots := by rw [show (headSpec ws rm).room.slots = ms from hrs]; exact hp.2.1
  have hPc : Pc a (A.U.calling g mk a) := hblind _ _ _ _ hp.2.2
  obtain ⟨U, Ls, c0, s0⟩ := A
  dsimp only [Pt.U, Pt.locs, Pt.cells, Pt.slots] at h1 h2 h3 h4 h5 X hn hPc ⊢
  obtain ⟨m9, methY, cY, hn9, hmY, hcY, -, hlY, -⟩ := Cond.codeWith_spec h2
  cases Option.some.inj (hn9.symm.trans hn)
  obtain ⟨kY, hkY, -⟩ := className_of_methodNamed hn
  have hinitY : kY.init = .initialized := Cond.initialized_spec (findClass_of_methodNamed hn) hkY h3
  have h : At U g.method c below := by rw [hg]; exact X.here
  have hlocals9 : W9 + (maxL + 11) + (headSpec ws rm).room.locals ≤ R.locals := hlocals
  have happ : (headSpec ws rm).appliesLoose y e.platform (U.calling g mk a) = true :=
    Spec.appliesLoose_calling (g := g) h hdg hn hkY hinitY
      (X.room_calling (g := g) (R' := (headSpec ws rm).room) hsize hmY hcY hframes (by rw [hlY]; omega) h4 h5) h1
  obtain ⟨mid, hmid⟩ := h.above
  have hfr : (U.setTop g).frames = (.java g :: mid) ++ below := by rw [State.frames_setTop' g h.top, hmid]; rfl
  obtain ⟨o, s₂, hsteps, -, hend, hq⟩ := Steps.callFree hM p X.admits X.cas X.clock (acts := []) hfr happ hPc trivial
  have hq' : vx_Q Qc XC mc ms free a (U.calling g mk a) o s₂ := hq
  rw [State.frames_setTop' g h.top] at hend
  obtain ⟨g₀, hg0⟩ := Option.isSome_iff_exists.mp h.top
  obtain ⟨r, hr⟩ := State.topJava?_eq_some.mp hg0
  have hr' : (({ U with heap := s₂.heap, slotsUsed := s₂.slotsUsed } : State).setVm s₂.vm).frames = .java g₀ :: r := hr
  rcases hq' with ⟨hqc, L, hfe, hL⟩ | ⟨q, rfl, E, ce, L, hx, hce, hcv, hcl, hW₂, hsm, hL⟩
  · obtain ⟨⟨v, rfl⟩, hW₂, e2, q2, q3, q4, q5, q6⟩ := id hfe
    have e3 : s₂ = ({ (U.calling g mk a).setFrames s₂.frames with heap := s₂.heap, slotsUsed := s₂.slotsUsed } : State).setVm s₂.vm := by
      have : s₂ = ({ s₂ with vm := (U.calling g mk a).vm } : State).setVm s₂.vm := rfl
      rw [e2] at this
      exact this
    obtain ⟨c₂, i₂, len₂, hc₂, hd₂, hf₂⟩ := hend
    have hW' : U.WarmedH s₂.vm := hW₂
    have hcc : c₂ = c := by
      have h1 : s₂.code? g.method = U.code? g.method := by
        rw [State.code?_eq, State.code?_eq, hW'.alike.method?]
      exact Option.some.inj (hc₂.symm.trans (h1.trans h.code))
    subst hcc
    have hlen : len₂ = len := by rw [hdg] at hd₂; cases hd₂; rfl
    subst hlen
    have hs₂ : s₂ = (({ U with heap := s₂.heap, slotsUsed := s₂.slotsUsed } : State).setVm s₂.vm).setTop { g with pc := g.pc + len₂, stack := v.toList ++ g.stack } := by
      refine e3.trans ?_
      rw [hf₂, State.calling_eq h.top, State.setFrames_setFrames, State.setTop_of_frames _ hr', hr]
      rfl
    have hsame : U.sameButNew ({ U with heap := s₂.heap, slotsUsed := s₂.slotsUsed } : State) L mc ms := by
      refine ⟨?_, q2, q3, q4, q5, q6⟩
      obtain ⟨t, ht, -⟩ := State.frames_cons hr
      show ({ U with heap := s₂.heap, slotsUsed := s₂.slotsUsed } : State) = { U.setFrames U.frames with heap := s₂.heap, slotsUsed := s₂.slotsUsed }
      rw [State.setFrames_self ht]
    subst hg
    refine Or.inl ⟨v, ⟨(({ U with heap := s₂.heap, slotsUsed := s₂.slotsUsed } : State).setVm s₂.vm), Ls ++ L, c0 + mc, s0 + ms⟩,
      ⟨X.admits, X.cas, X.clock, X.frames, X.room, X.hears, X.method, X.code, (X.here.setHeapUsed s₂.heap s₂.slotsUsed).setVm hW'.alike, X.tail, State.WarmedH.trans X.warmed hW', X.limits, X.bytes, X.same.trans (hsame.setVm s.vm)⟩,
      ⟨g, mk, s₂, L, rfl, rfl, hqc, rfl, hL, rfl, rfl⟩, ?_⟩
    show Steps p.tables e below _ ((({ U with heap := s₂.heap, slotsUsed := s₂.slotsUsed } : State).setVm s₂.vm).setTop { g with pc := g.pc + len₂, stack := v.toList ++ g.stack })
    rw [← hs₂]
    exact hsteps
  · obtain ⟨e2, q2, q3, q4, q5, q6⟩ := id hsm
    have e3 : s₂ = ({ (U.calling g mk a).setFrames s₂.frames with heap := s₂.heap, slotsUsed := s₂.slotsUsed } : State).setVm s₂.vm := by
      have : s₂ = ({ s₂ with vm := (U.calling g mk a).vm } : State).setVm s₂.vm := rfl
      rw [e2] at this
      exact this
    have hf₂ : s₂.frames = .throwing q :: .java g :: U.frames.tail := hend
    have hW' : U.WarmedH s₂.vm := hW₂
    have hs₂ : s₂ = ((({ U with heap := s₂.heap, slotsUsed := s₂.slotsUsed } : State).setVm s₂.vm).setTop g).pushFrame (.throwing q) := by
      refine e3.trans ?_
      rw [hf₂, State.calling_eq h.top, State.setFrames_setFrames, State.pushFrame, State.frames_setTop _ hr', State.setTop_of_frames _ hr', State.setFrames_setFrames, hr]
      rfl
    have hsame : U.sameButNew ({ U with heap := s₂.heap, slotsUsed := s₂.slotsUsed } : State) L mc ms := by
      refine ⟨?_, q2, q3, q4, q5, q6⟩
      obtain ⟨t, ht, -⟩ := State.frames_cons hr
      show ({ U with heap := s₂.heap, slotsUsed := s₂.slotsUsed } : State) = { U.setFrames U.frames with heap := s₂.heap, slotsUsed := s₂.slotsUsed }
      rw [State.setFrames_self ht]
    subst hg
    refine Or.inr ⟨q, ⟨(({ U with heap := s₂.heap, slotsUsed := s₂.slotsUsed } : State).setVm s₂.vm), Ls ++ L, c0 + mc, s0 + ms⟩,
      ⟨X.admits, X.cas, X.clock, X.frames, X.room, X.hears, X.method, X.code, (X.here.setHeapUsed s₂.heap s₂.slotsUsed).setVm hW'.alike, X.tail, State.WarmedH.trans X.warmed hW', X.limits, X.bytes, X.same.trans (hsame.setVm s.vm)⟩,
      ⟨g, mk, s₂, L, E, ce, rfl, rfl, hx, hce, hcv, hcl, rfl, hL, rfl, rfl⟩, ?_⟩
    show Steps p.tables e below _ (((({ U with heap := s₂.heap, slotsUsed := s₂.slotsUsed } : State).setVm s₂.vm).setTop g).pushFrame (.throwing q))
    rw [← hs₂]
    exact hsteps
end
variable {p : Program} {l : Launch} {e : Env} {R : Room} {s : State} {m : MethodId} {args : Array Value} {below : List Frame} {meth : Method} {c : Code} {T : State} {H : Heap} {locs : List Loc} {cells slots : Nat}
theorem vx_callVX (X : Stand p l e R s m args below meth c T locs cells slots) (hexec : p.tables.exec = Jvm.exec) {own C : String} {index : Nat} {y : MethodName} {bytes : ByteArray} {maxL : Nat} {ret : Option FieldType} {hh : List (Nat × Nat × Nat × Nat)}
    (hown : s.vm.findClass own = some m.cls) (hlink : (Cond.methodLink own index y).before args s = true) (hinst : (Cond.instanceMethod y).before args s = true) (hsel : (Cond.selects C y y).before args s = true)
    (hcode : (Cond.codeWith y bytes maxL ret hh).before args s = true) (hy : y.cls ≠ "java/lang/invoke/MethodHandle" ∧ y.cls ≠ "java/lang/invoke/VarHandle")
    {W9 : Nat} {Pre : Pt → Array Value → Prop} {Post : Pt → Array Value → Option Value → Pt → Prop} {PostX : Pt → Array Value → Addr → Pt → Prop} (hK : vx_Back l R p e below s args y 3 W9 Pre Post PostX)
    {b : Addr} {cellB : Cell} (hcell : T.heap[b]? = some cellB) (hobj : cellB.vm.isStatics = false) (hcls : s.vm.findClass C = some cellB.cls)
    {g : JFrame} (hg : g.method = m) (hsize : g.locals.size = c.maxLocals) {argsL rest : List Value} (hlen : ∀ sig, parseMethodDescriptor y.desc = some sig → argsL.length = sig.parameters.length)
    (hstack : g.stack = argsL.reverse ++ .ref b :: rest) (hW : 2 * g.monitorRoom + (rest.map fun v => v.category).sum ≤ W9) (hdg : decode c.code g.pc = .ok (.invokevirtual index, 3))
    (hpre : ∀ vm₁, s.WarmedH vm₁ → Pre ⟨T.setVm vm₁, locs, cells, slots⟩ (Value.ref b :: argsL).toArray) :
    (∃ (v : Option Value) (vm₁ : Vm) (B : Pt), s.WarmedH vm₁ ∧ Stand p l e R s m args below meth c B.U B.locs B.cells B.slots ∧ Post ⟨T.setVm vm₁, locs, cells, slots⟩ (Value.ref b :: argsL).toArray v B ∧
      ∀ target, Steps p.tables e below (B.U.setTop { g with pc := g.pc + 3, stack := v.toList ++ rest }) target → Steps p.tables e below (T.setTop g) target) ∨
    (∃ (q : Addr) (vm₁ : Vm) (B : Pt), s.WarmedH vm₁ ∧ Stand p l e R s m args below meth c B.U B.locs B.cells B.slots ∧ PostX ⟨T.setVm vm₁, locs, cells, slots⟩ (Value.ref b :: argsL).toArray q B ∧
      Steps p.tables e below (T.setTop g) ((B.U.setTop { g with stack := rest }).pushFrame (.throwing q))) := by
  obtain ⟨mk, methM, hnamed, hmethM, hstM, habM⟩ := Cond.instanceMethod_spec hinst
  obtain ⟨m8, methM', cM, hn8, hmethM', -, -, -, -, -, -, hsigM⟩ := Cond.codeWith_spec hcode
  cases Option.some.inj (hn8.symm.trans hnamed)
  cases hmethM.symm.trans hmethM'
  obtain ⟨c2, r2, m2, q1, q2, q3, q4, kP, hkP, hkPi⟩ := Cond.selects_spec hsel
  cases hcls.symm.trans q1
  cases (State.methodFound?_of_named hnamed hy).symm.trans q2
  cases hnamed.symm.trans q3
  have hselP : selectMethod e.platform s.vm cellB.cls mk = .method mk := by rw [Launch.admits_selectMethod X.admits]; exact q4
  obtain ⟨vm₁, X₁, hstep₁⟩ := X.invokevirtual hexec hown hlink hnamed hmethM hstM hkP hkPi hy (a := b) (cell := cellB) hcell
    (fun z h => by rw [h] at hobj; cases hobj) hselP hmethM habM hkP hkPi (g := g) hg (argsL := argsL) (rest := rest) (hlen _ hsigM) hstack hdg
  rcases hK m meth c ⟨T.setVm vm₁, locs, cells, slots⟩ { g with stack := rest } (.invokevirtual index) mk (Value.ref b :: argsL).toArray X₁ hg hsize hdg hW (X₁.named hnamed) (hpre vm₁ X₁.warmed) with ⟨v, B, X', hpost, hsteps⟩ | ⟨q, B, X', hpost, hsteps⟩
  · exact Or.inl ⟨v, vm₁, B, X₁.warmed, X', hpost, fun target h => hstep₁ _ fun acts => by rw [doInvoke_state]; exact hsteps.trans h⟩
  · exact Or.inr ⟨q, vm₁, B, X₁.warmed, X', hpost, hstep₁ _ fun acts => by rw [doInvoke_state]; exact hsteps⟩
theorem vx_callSX (X : Stand p l e R s m args below meth c T locs cells slots) (hexec : p.tables.exec = Jvm.exec) {own : String} {index : Nat} {y : MethodName} {bytes : ByteArray} {maxL : Nat} {ret : Option FieldType} {hh : List (Nat × Nat × Nat × Nat)}
    (hown : s.vm.findClass own = some m.cls) (hlink : (Cond.methodLink own index y).before args s = true) (hstat : (Cond.static y).before args s = true) (hinit : (Cond.initialized y.cls).before args s = true)
    (hcode : (Cond.codeWith y bytes maxL ret hh).before args s = true) (hy : y.cls ≠ "java/lang/invoke/MethodHandle" ∧ y.cls ≠ "java/lang/invoke/VarHandle")
    {W9 : Nat} {Pre : Pt → Array Value → Prop} {Post : Pt → Array Value → Option Value → Pt → Prop} {PostX : Pt → Array Value → Addr → Pt → Prop} (hK : vx_Back l R p e below s args y 3 W9 Pre Post PostX)
    {g : JFrame} (hg : g.method = m) (hsize : g.locals.size = c.maxLocals) {argsL rest : List Value} (hlen : ∀ sig, parseMethodDescriptor y.desc = some sig → argsL.length = sig.parameters.length)
    (hstack : g.stack = argsL.reverse ++ rest) (hW : 2 * g.monitorRoom + (rest.map fun v => v.category).sum ≤ W9) (hdg : decode c.code g.pc = .ok (.invokestatic index, 3))
    (hpre : ∀ vm₁, s.WarmedH vm₁ → Pre ⟨T.setVm vm₁, locs, cells, slots⟩ argsL.toArray) :
    (∃ (v : Option Value) (vm₁ : Vm) (B : Pt), s.WarmedH vm₁ ∧ Stand p l e R s m args below meth c B.U B.locs B.cells B.slots ∧ Post ⟨T.setVm vm₁, locs, cells, slots⟩ argsL.toArray v B ∧
      ∀ target, Steps p.tables e below (B.U.setTop { g with pc := g.pc + 3, stack := v.toList ++ rest }) target → Steps p.tables e below (T.setTop g) target) ∨
    (∃ (q : Addr) (vm₁ : Vm) (B : Pt), s.WarmedH vm₁ ∧ Stand p l e R s m args below meth c B.U B.locs B.cells B.slots ∧ PostX ⟨T.setVm vm₁, locs, cells, slots⟩ argsL.toArray q B ∧
      Steps p.tables e below (T.setTop g) ((B.U.setTop { g with stack := rest }).pushFrame (.throwing q))) := by
  obtain ⟨mk, methM, cM, hnamed, hmethM, -, -, -, -, -, -, hsigM⟩ := Cond.codeWith_spec hcode
  have hstatic : methM.isStatic = true := Cond.static_spec hnamed hmethM hstat
  obtain ⟨kP, hkP, -⟩ := className_of_methodNamed hnamed
  have hinitP : kP.init = .initialized := Cond.initialized_spec (findClass_of_methodNamed hnamed) hkP hinit
  obtain ⟨vm₁, X₁, hstep₁⟩ := X.invokestatic hexec hown hlink hnamed hmethM hstatic hkP hinitP hy (g := g) hg (argsL := argsL) (rest := rest) (hlen _ hsigM) hstack hdg
  rcases hK m meth c ⟨T.setVm vm₁, locs, cells, slots⟩ { g with stack := rest } (.invokestatic index) mk argsL.toArray X₁ hg hsize hdg hW (X₁.named hnamed) (hpre vm₁ X₁.warmed) with ⟨v, B, X', hpost, hsteps⟩ | ⟨q, B, X', hpost, hsteps⟩
  · exact Or.inl ⟨v, vm₁, B, X₁.warmed, X', hpost, fun target h => hstep₁ _ fun acts => by rw [doInvoke_state]; exact hsteps.trans h⟩
  · exact Or.inr ⟨q, vm₁, B, X₁.warmed, X', hpost, hstep₁ _ fun acts => by rw [doInvoke_state]; exact hsteps⟩
theorem vx_callVW (X : Stand p l e R s m args below meth c T locs cells slots) (hexec : p.tables.exec = Jvm.exec) {own C : String} {index : Nat} {y : MethodName} {bytes : ByteArray} {maxL : Nat} {ret : Option FieldType} {hh : List (Nat × Nat × Nat × Nat)}
    (hown : s.vm.findClass own = some m.cls) (hlink : (Cond.methodLink own index y).before args s = true) (hinst : (Cond.instanceMethod y).before args s = true) (hsel : (Cond.selects C y y).before args s = true)
    (hcode : (Cond.codeWith y bytes maxL ret hh).before args s = true) (hy : y.cls ≠ "java/lang/invoke/MethodHandle" ∧ y.cls ≠ "java/lang/invoke/VarHandle")
    {W9 : Nat} {Pre : Pt → Array Value → Prop} {Post : Pt → Array Value → Option Value → Pt → Prop} (hK : Back l R p e below s args y 3 W9 Pre Post)
    {b : Addr} {cellB : Cell} (hcell : T.heap[b]? = some cellB) (hobj : cellB.vm.isStatics = false) (hcls : s.vm.findClass C = some cellB.cls)
    {g : JFrame} (hg : g.method = m) (hsize : g.locals.size = c.maxLocals) {argsL rest : List Value} (hlen : ∀ sig, parseMethodDescriptor y.desc = some sig → argsL.length = sig.parameters.length)
    (hstack : g.stack = argsL.reverse ++ .ref b :: rest) (hW : 2 * g.monitorRoom + (rest.map fun v => v.category).sum ≤ W9) (hdg : decode c.code g.pc = .ok (.invokevirtual index, 3))
    (hpre : ∀ vm₁, s.WarmedH vm₁ → Pre ⟨T.setVm vm₁, locs, cells, slots⟩ (Value.ref b :: argsL).toArray) :
    ∃ (v : Option Value) (vm₁ : Vm) (B : Pt), s.WarmedH vm₁ ∧ Stand p l e R s m args below meth c B.U B.locs B.cells B.slots ∧ Post ⟨T.setVm vm₁, locs, cells, slots⟩ (Value.ref b :: argsL).toArray v B ∧
      ∀ target, Steps p.tables e below (B.U.setTop { g with pc := g.pc + 3, stack := v.toList ++ rest }) target → Steps p.tables e below (T.setTop g) target := by
  obtain ⟨mk, methM, hnamed, hmethM, hstM, habM⟩ := Cond.instanceMethod_spec hinst
  obtain ⟨m8, methM', cM, hn8, hmethM', -, -, -, -, -, -, hsigM⟩ := Cond.codeWith_spec hcode
  cases Option.some.inj (hn8.symm.trans hnamed)
  cases hmethM.symm.trans hmethM'
  obtain ⟨c2, r2, m2, q1, q2, q3, q4, kP, hkP, hkPi⟩ := Cond.selects_spec hsel
  cases hcls.symm.trans q1
  cases (State.methodFound?_of_named hnamed hy).symm.trans q2
  cases hnamed.symm.trans q3
  have hselP : selectMethod e.platform s.vm cellB.cls mk = .method mk := by rw [Launch.admits_selectMethod X.admits]; exact q4
  obtain ⟨vm₁, X₁, hstep₁⟩ := X.invokevirtual hexec hown hlink hnamed hmethM hstM hkP hkPi hy (a := b) (cell := cellB) hcell
    (fun z h => by rw [h] at hobj; cases hobj) hselP hmethM habM hkP hkPi (g := g) hg (argsL := argsL) (rest := rest) (hlen _ hsigM) hstack hdg
  obtain ⟨v, B, X', hpost, hsteps⟩ := hK m meth c ⟨T.setVm vm₁, locs, cells, slots⟩ { g with stack := rest } (.invokevirtual index) mk (Value.ref b :: argsL).toArray X₁ hg hsize hdg hW (X₁.named hnamed) (hpre vm₁ X₁.warmed)
  exact ⟨v, vm₁, B, X₁.warmed, X', hpost, fun target h => hstep₁ _ fun acts => by rw [doInvoke_state]; exact hsteps.trans h⟩
abbrev vx_CVW (R : Room) (s : State) (args : Array Value) (own C : String) (index : Nat) (y : MethodName) (bytes : ByteArray) (maxL : Nat) (ret : Option FieldType) (hh : List (Nat × Nat × Nat × Nat)) (ws : List Cond) (rm : Room) (mc ms n : Nat) : Prop :=
  (rm.cells = mc ∧ rm.slots = ms ∧ rm.frames + 1 ≤ R.frames ∧ 8 + (maxL + 11) + rm.locals ≤ R.locals ∧ (∀ w ∈ ws, ∀ (a' : Array Value) (U : State), s.WarmedH U.vm → w.before a' U = true) ∧ Cond.codeWith y bytes maxL ret hh ∈ ws) ∧
  (Cond.codeWith y bytes maxL ret hh).before args s = true ∧ (Cond.initialized y.cls).before args s = true ∧ (y.cls ≠ "java/lang/invoke/MethodHandle" ∧ y.cls ≠ "java/lang/invoke/VarHandle") ∧
  (∀ sig, parseMethodDescriptor y.desc = some sig → n = sig.parameters.length) ∧ (Cond.methodLink own index y).before args s = true ∧ (Cond.instanceMethod y).before args s = true ∧ (Cond.selects C y y).before args s = true
theorem vx_cwVW {own C : String} {index maxL mc ms : Nat} {y : MethodName} {bytes : ByteArray} {ret : Option FieldType} {hh : List (Nat × Nat × Nat × Nat)} {Ts ws ws' : List Cond} {rm : Room} (n : Nat) (ht : ∀ w ∈ Ts, w.before args s = true) (hT : GoodIn Ts (wsV own index C y ws)) (hw : ws = Cond.codeWith y bytes maxL ret hh :: ws') (hrc : rm.cells = mc) (hrs : rm.slots = ms)
    (hd : y.cls = C ∧ y.cls ≠ "java/lang/invoke/MethodHandle" ∧ y.cls ≠ "java/lang/invoke/VarHandle" ∧ (parseMethodDescriptor y.desc).map (fun d => d.parameters.length) = some n) (hR : rm.frames + 1 ≤ R.frames ∧ 8 + (maxL + 11) + rm.locals ≤ R.locals) :
    vx_CVW R s args own C index y bytes maxL ret hh ws rm mc ms n := by
  obtain ⟨hC, hd⟩ := hd
  subst hC
  have ok : ∀ w ∈ wsV own index y.cls y ws, w.before args s = true := fun w h => ht w (hT w h).1
  have hG : GoodIn Ts ws := fun w h => hT w (by unfold wsV; exact List.mem_append_right _ h)
  have hc : Cond.codeWith y bytes maxL ret hh ∈ ws := by rw [hw]; exact List.mem_cons_self
  refine ⟨⟨hrc, hrs, hR.1, hR.2, pay_in ht hG, hc⟩, ht _ (hG _ hc).1, ok _ (by simp [wsV]), ⟨hd.1, hd.2.1⟩, fun sig h => ?_, ok _ (by simp [wsV]), ok _ (by simp [wsV]), ok _ (by simp [wsV])⟩
  have h2 := hd.2.2
  rw [h] at h2
  exact (Option.some.inj h2).symm
theorem vx_runVW {y : MethodName} {bytes cc : ByteArray} {maxL nL mc ms n index : Nat} {ret : Option FieldType} {hh : List (Nat × Nat × Nat × Nat)} {ws : List Cond} {rm : Room} {Pc : Array Value → State → Prop} {Qc : Array Value → State → Outcome → State → Prop} {free : Addr → Prop} {Ts : List Cond} {own C : String} {b : Addr} {As rest : List Value} {g : JFrame}
    (S : CallFix p m c cc nL s args Ts own) (hM : Met l y ws rm Pc Qc mc ms free) (cw : vx_CVW R s args own C index y bytes maxL ret hh ws rm mc ms n) (hp : PreV s H C b Pc As)
    (hg : g.method = m) (hn : As.length = n) (hsize : g.locals.size = nL) (hstack : g.stack = As.reverse ++ .ref b :: rest) (hW : 2 * g.monitorRoom + (rest.map fun v => v.category).sum ≤ 8) (hdg : decode cc g.pc = .ok (.invokevirtual index, 3)) (hf : cells + mc ≤ R.cells ∧ slots + ms ≤ R.slots) :
    va_Run p l e R s m args below meth c H locs cells slots mc ms g rest (Qc (Value.ref b :: As).toArray) free := by
  obtain ⟨⟨hrc, hrs, hfr, hlo, hws, hcw⟩, hcode, hini, hy, hlen, hl, hin, hse⟩ := cw
  have hK : Back l R p e below s args y 3 8 (PreOf R mc ms Pc) (PostOf Qc mc ms free) := va_backW (hh := hh) (bytes := bytes) (maxL := maxL) (ret := ret) hM hp.1 hrc hrs hfr hlo hws hcw (fun a' U hW => word_at hW (Or.inl (by first | rfl | simp [Cond.onTables, Cond.keeps, Cond.steady])) hini)
  obtain ⟨hx, hb, hml, ho, -⟩ := S
  obtain ⟨-, ⟨cellB, hcB, hoB, hclB⟩, hPc⟩ := hp
  intro T hT X
  obtain ⟨v, vm₁, ⟨U', l2, c2, s2⟩, hW₁, X', ⟨g', mk, t, L, e1, e2, hq, h1, hL, h2, h3⟩, st⟩ := vx_callVW X hx (C := C) (hh := hh) (bytes := bytes) (maxL := maxL) (ret := ret) ho hl hin hse hcode hy hK (by rw [hT]; exact hcB) hoB hclB hg (hsize.trans hml.symm) (argsL := As) (rest := rest) (fun sig h => hn.trans (hlen sig h)) hstack hW (by rw [hb]; exact hdg)
    (fun vm₁ hW₁ => ⟨hf.1, hf.2, hPc (T.setVm vm₁) hT hW₁⟩)
  dsimp only [Pt.U, Pt.locs, Pt.cells, Pt.slots] at X' e1 e2 h1 h2 h3 st
  subst h1; subst h2; subst h3
  exact ⟨v, (T.setVm vm₁).calling g' mk (Value.ref b :: As).toArray, t, U', L, hT, X', hL, e1, e2, hq, st⟩
section
variable {y : MethodName} {bytes cc : ByteArray} {maxL nL mc ms n index : Nat} {ret : Option FieldType} {ws : List Cond} {rm : Room} {Pc : Array Value → State → Prop} {Qc : Array Value → State → Outcome → State → Prop} {XC : String → State → State → Prop} {free : Addr → Prop} {Ts : List Cond} {own C : String} {b : Addr} {As rest : List Value} {g : JFrame}
theorem vx_runVX {hh : List (Nat × Nat × Nat × Nat)} (S : CallFix p m c cc nL s args Ts own) (hM : vx_Met l y ws rm Pc Qc XC mc ms free) (cw : vx_CVW R s args own C index y bytes maxL ret hh ws rm mc ms n) (hp : PreV s H C b Pc As)
    (hg : g.method = m) (hn : As.length = n) (hsize : g.locals.size = nL) (hstack : g.stack = As.reverse ++ .ref b :: rest) (hW : 2 * g.monitorRoom + (rest.map fun v => v.category).sum ≤ 8) (hdg : decode cc g.pc = .ok (.invokevirtual index, 3)) (hf : cells + mc ≤ R.cells ∧ slots + ms ≤ R.slots) :
    vx_Run p l e R s m args below meth c H locs cells slots mc ms g rest (Qc (Value.ref b :: As).toArray) XC free := by
  obtain ⟨⟨hrc, hrs, hfr, hlo, hws, hcw⟩, hcode, hini, hy, hlen, hl, hin, hse⟩ := cw
  have hK : vx_Back l R p e below s args y 3 8 (PreOf R mc ms Pc) (PostOf Qc mc ms free) (vx_Post XC mc ms free) := vx_backW (hh := hh) (bytes := bytes) (maxL := maxL) (ret := ret) hM hp.1 hrc hrs hfr hlo hws hcw (fun a' U hW => word_at hW (Or.inl (by first | rfl | simp [Cond.onTables, Cond.keeps, Cond.steady])) hini)
  obtain ⟨hx, hb, hml, ho, -⟩ := S
  obtain ⟨-, ⟨cellB, hcB, hoB, hclB⟩, hPc⟩ := hp
  intro T hT X
  rcases vx_callVX X hx (C := C) (hh := hh) (bytes := bytes) (maxL := maxL) (ret := ret) ho hl hin hse hcode hy hK (by rw [hT]; exact hcB) hoB hclB hg (hsize.trans hml.symm) (argsL := As) (rest := rest) (fun sig h => hn.trans (hlen sig h)) hstack hW (by rw [hb]; exact hdg)
    (fun vm₁ hW₁ => ⟨hf.1, hf.2, hPc (T.setVm vm₁) hT hW₁⟩) with ⟨v, vm₁, ⟨U', l2, c2, s2⟩, hW₁, X', ⟨g', mk, t, L, e1, e2, hq, h1, hL, h2, h3⟩, st⟩ | ⟨q, vm₁, ⟨U', l2, c2, s2⟩, hW₁, X', ⟨g', mk, t, L, E, ce, e1, e2, hq, hce, hcv, hcl, h1, hL, h2, h3⟩, st⟩
  · dsimp only [Pt.U, Pt.locs, Pt.cells, Pt.slots] at X' e1 e2 h1 h2 h3 st
    subst h1; subst h2; subst h3
    exact Or.inl ⟨v, (T.setVm vm₁).calling g' mk (Value.ref b :: As).toArray, t, U', L, hT, X', hL, e1, e2, hq, st⟩
  · dsimp only [Pt.U, Pt.locs, Pt.cells, Pt.slots] at X' e1 e2 h1 h2 h3 st hcl
    subst h1; subst h2; subst h3
    exact Or.inr ⟨q, (T.setVm vm₁).calling g' mk (Value.ref b :: As).toArray, t, U', L, E, ce, hT, X', hL, e1, e2, hq, hce, hcv, vx_cls hW₁ hcl, st⟩
theorem vx_runSX {hh : List (Nat × Nat × Nat × Nat)} (S : CallFix p m c cc nL s args Ts own) (hM : vx_Met l y ws rm Pc Qc XC mc ms free) (cw : vx_CSW R s args own index y bytes maxL ret hh ws rm mc ms n) (hp : PreS s H Pc As)
    (hg : g.method = m) (hn : As.length = n) (hsize : g.locals.size = nL) (hstack : g.stack = As.reverse ++ rest) (hW : 2 * g.monitorRoom + (rest.map fun v => v.category).sum ≤ 8) (hdg : decode cc g.pc = .ok (.invokestatic index, 3)) (hf : cells + mc ≤ R.cells ∧ slots + ms ≤ R.slots) :
    vx_Run p l e R s m args below meth c H locs cells slots mc ms g rest (Qc As.toArray) XC free := by
  obtain ⟨⟨hrc, hrs, hfr, hlo, hws, hcw⟩, hcode, hini, hy, hlen, hl, hstt⟩ := cw
  have hK : vx_Back l R p e below s args y 3 8 (PreOf R mc ms Pc) (PostOf Qc mc ms free) (vx_Post XC mc ms free) := vx_backW (hh := hh) (bytes := bytes) (maxL := maxL) (ret := ret) hM hp.1 hrc hrs hfr hlo hws hcw (fun a' U hW => word_at hW (Or.inl (by first | rfl | simp [Cond.onTables, Cond.keeps, Cond.steady])) hini)
  obtain ⟨hx, hb, hml, ho, -⟩ := S
  intro T hT X
  rcases vx_callSX X hx (hh := hh) (bytes := bytes) (maxL := maxL) (ret := ret) ho hl hstt hini hcode hy hK hg (hsize.trans hml.symm) (argsL := As) (rest := rest) (fun sig h => hn.trans (hlen sig h)) hstack hW (by rw [hb]; exact hdg)
    (fun vm₁ hW₁ => ⟨hf.1, hf.2, hp.2 (T.setVm vm₁) hT hW₁⟩) with ⟨v, vm₁, ⟨U', l2, c2, s2⟩, hW₁, X', ⟨g', mk, t, L, e1, e2, hq, h1, hL, h2, h3⟩, st⟩ | ⟨q, vm₁, ⟨U', l2, c2, s2⟩, hW₁, X', ⟨g', mk, t, L, E, ce, e1, e2, hq, hce, hcv, hcl, h1, hL, h2, h3⟩, st⟩
  · dsimp only [Pt.U, Pt.locs, Pt.cells, Pt.slots] at X' e1 e2 h1 h2 h3 st
    subst h1; subst h2; subst h3
    exact Or.inl ⟨v, (T.setVm vm₁).calling g' mk As.toArray, t, U', L, hT, X', hL, e1, e2, hq, st⟩
  · dsimp only [Pt.U, Pt.locs, Pt.cells, Pt.slots] at X' e1 e2 h1 h2 h3 st hcl
    subst h1; subst h2; subst h3
    exact Or.inr ⟨q, (T.setVm vm₁).calling g' mk As.toArray, t, U', L, E, ce, hT, X', hL, e1, e2, hq, hce, hcv, vx_cls hW₁ hcl, st⟩
end
end VXH
theorem vx_ofWH {l : Launch} {y : MethodName} {ws ws' : List Cond} {rm : Room} {Pc : Array Value → State → Prop} {Qc : Array Value → State → Outcome → State → Prop} {XC : String → State → State → Prop} {mc ms : Nat} {free : Addr → Prop} {cc : ByteArray} {maxL : Nat} {ret : Option FieldType} {hh : List (Nat × Nat × Nat × Nat)}
    (hy : plainName y.cls = true) (hw : ws = Cond.codeWith y cc maxL ret hh :: ws')
    (body : ∀ p e s m args below meth c s₁, BodyLoose p l y (headSpec ws rm) cc maxL ret e s m args below meth c s₁ → c.maxLocals = maxL → Pc args s →
      W p l e (headSpec ws rm).room s m args below meth c s.heap [] 0 0 (vx_MQ below Qc XC args s mc ms free) (entryFrame m args maxL)) : vx_Met l y ws rm Pc Qc XC mc ms free := by
  refine MetFree.of_bodyS (code := cc) (maxLocals := maxL) (ret := ret) hy ?_ ?_
  · intro args s m h hn
    obtain ⟨m9, meth, c, hn9, h1, h2, h3, h4, -, h5, h6, -⟩ := Cond.codeWith_spec (atoms_spec (ws := ws) h _ (by rw [hw]; exact List.mem_cons_self))
    cases hn.symm.trans hn9
    exact ⟨meth, c, h1, h2, h3, h4, h5, h6⟩
  · intro p e s m args below meth c s₁ B hml hP _
    have hh0 : s₁.heap = s.heap := by rw [B.state]; rfl
    obtain ⟨t, a1, o, b1, b2, b3⟩ := body p e s m args below meth c s₁ B hml hP s₁ hh0 (Stand.of_body B)
    exact ⟨t, o, a1, b1, b2, b3⟩
/-! ===== END ===== -/
end
section
/-! ===== BEGIN printed: names, fields, word lists, decode rows ===== -/
def RX0 : String := "ShelfMarks"
def TX0 : u_T := fun k => match k with
  | 0 => ("ShelfMarks", "folders", "[I", true)
  | 1 => ("ShelfMarks", "marks", "[I", true)
  | 2 => ("ShelfMarks", "count", "I", false)
  | 3 => ("ShelfMarks", "came", "I", false)
  | 4 => ("ShelfMarks", "moves", "I", false)
  | 5 => ("ShelfMarks", "spreads", "[I", true)
  | 6 => ("ShelfMarks", "readerFolders", "[I", true)
  | _ => ("ShelfMarks", "readerCounts", "[I", true)
def tyX0 : Nat → FieldType := fun k => match k with
  | 0 => .array .int
  | 1 => .array .int
  | 2 => .int
  | 3 => .int
  | 4 => .int
  | 5 => .array .int
  | 6 => .array .int
  | _ => .array .int
abbrev wsX00 : List Cond := u_ws RX0 TX0 8
theorem nmX0 : ∀ a, a < 8 → ∀ b, b < 8 → a ≠ b → (TX0 a).2.1 ≠ (TX0 b).2.1 := by decide +kernel
theorem tyX0_ok : ∀ k, k < 8 → parseFieldDescriptor (TX0 k).2.2.1 = some (tyX0 k) := by decide +kernel
abbrev cX0_init : ByteArray := prog_1_method_1_code
def yX0_init : MethodName := ⟨RX0, "<init>", "()V"⟩
abbrev cX0_putFirst : ByteArray := prog_1_method_2_code
def yX0_putFirst : MethodName := ⟨RX0, "putFirst", "()I"⟩
abbrev cX0_putBehind : ByteArray := prog_1_method_3_code
def yX0_putBehind : MethodName := ⟨RX0, "putBehind", "(I)I"⟩
abbrev cX0_takeOut : ByteArray := prog_1_method_4_code
def yX0_takeOut : MethodName := ⟨RX0, "takeOut", "(I)I"⟩
abbrev cX0_carry : ByteArray := prog_1_method_5_code
def yX0_carry : MethodName := ⟨RX0, "carry", "(II)I"⟩
abbrev cX0_size : ByteArray := prog_1_method_6_code
def yX0_size : MethodName := ⟨RX0, "size", "()I"⟩
abbrev cX0_first : ByteArray := prog_1_method_7_code
def yX0_first : MethodName := ⟨RX0, "first", "()I"⟩
abbrev cX0_next : ByteArray := prog_1_method_8_code
def yX0_next : MethodName := ⟨RX0, "next", "(I)I"⟩
abbrev cX0_mark : ByteArray := prog_1_method_11_code
def yX0_mark : MethodName := ⟨RX0, "mark", "(I)I"⟩
abbrev cX0_ahead : ByteArray := prog_1_method_12_code
def yX0_ahead : MethodName := ⟨RX0, "ahead", "(I)I"⟩
abbrev cX0_seat : ByteArray := prog_1_method_20_code
def yX0_seat : MethodName := ⟨RX0, "seat", "(II)I"⟩
abbrev cX0_passDay : ByteArray := prog_1_method_21_code
def yX0_passDay : MethodName := ⟨RX0, "passDay", "()I"⟩
abbrev cX0_at : ByteArray := prog_1_method_22_code
def yX0_at : MethodName := ⟨RX0, "at", "(I)I"⟩
abbrev cX0_read : ByteArray := prog_1_method_23_code
def yX0_read : MethodName := ⟨RX0, "read", "(I)I"⟩
abbrev cX0_requirePlace : ByteArray := prog_1_method_25_code
def yX0_requirePlace : MethodName := ⟨RX0, "requirePlace", "(I)I"⟩
abbrev cX0_requireThatOneMayCome : ByteArray := prog_1_method_26_code
def yX0_requireThatOneMayCome : MethodName := ⟨RX0, "requireThatOneMayCome", "()V"⟩
abbrev cX0_requireReader : ByteArray := prog_1_method_28_code
def yX0_requireReader : MethodName := ⟨RX0, "requireReader", "(I)V"⟩
abbrev cX0_isPlace : ByteArray := prog_1_method_29_code
def yX0_isPlace : MethodName := ⟨RX0, "isPlace", "(I)Z"⟩
abbrev cX0_placeOf : ByteArray := prog_1_method_30_code
def yX0_placeOf : MethodName := ⟨RX0, "placeOf", "(I)I"⟩
abbrev cX0_folderAt : ByteArray := prog_1_method_31_code
def yX0_folderAt : MethodName := ⟨RX0, "folderAt", "(I)I"⟩
abbrev cX0_markAt : ByteArray := prog_1_method_32_code
def yX0_markAt : MethodName := ⟨RX0, "markAt", "(I)I"⟩
abbrev cX0_set : ByteArray := prog_1_method_33_code
def yX0_set : MethodName := ⟨RX0, "set", "(III)V"⟩
abbrev cX0_insertAt : ByteArray := prog_1_method_34_code
def yX0_insertAt : MethodName := ⟨RX0, "insertAt", "(III)V"⟩
abbrev cX0_removeAt : ByteArray := prog_1_method_35_code
def yX0_removeAt : MethodName := ⟨RX0, "removeAt", "(I)V"⟩
abbrev cX0_marksBelow : ByteArray := prog_1_method_36_code
def yX0_marksBelow : MethodName := ⟨RX0, "marksBelow", "(I)I"⟩
abbrev cX0_nextNumber : ByteArray := prog_1_method_37_code
def yX0_nextNumber : MethodName := ⟨RX0, "nextNumber", "()I"⟩
abbrev cX0_putIn : ByteArray := prog_1_method_38_code
def yX0_putIn : MethodName := ⟨RX0, "putIn", "(II)V"⟩
abbrev cX0_hasFreeMark : ByteArray := prog_1_method_39_code
def yX0_hasFreeMark : MethodName := ⟨RX0, "hasFreeMark", "(I)Z"⟩
abbrev cX0_spreadOut : ByteArray := prog_1_method_40_code
def yX0_spreadOut : MethodName := ⟨RX0, "spreadOut", "(II)V"⟩
abbrev cX0_movesByPuttingIn : ByteArray := prog_1_method_41_code
def yX0_movesByPuttingIn : MethodName := ⟨RX0, "movesByPuttingIn", "(I)I"⟩
abbrev cX0_levelToSpread : ByteArray := prog_1_method_42_code
def yX0_levelToSpread : MethodName := ⟨RX0, "levelToSpread", "(I)I"⟩
abbrev cX0_shelfToSpread : ByteArray := prog_1_method_43_code
def yX0_shelfToSpread : MethodName := ⟨RX0, "shelfToSpread", "(II)I"⟩
abbrev cX0_spreadMark : ByteArray := prog_1_method_44_code
def yX0_spreadMark : MethodName := ⟨RX0, "spreadMark", "(IIII)I"⟩
abbrev cX0_countSpread : ByteArray := prog_1_method_45_code
def yX0_countSpread : MethodName := ⟨RX0, "countSpread", "(I)V"⟩
abbrev cX0_shelfSize : ByteArray := prog_1_method_46_code
def yX0_shelfSize : MethodName := ⟨RX0, "shelfSize", "(I)I"⟩
abbrev cX0_firstMark : ByteArray := prog_1_method_48_code
def yX0_firstMark : MethodName := ⟨RX0, "firstMark", "(II)I"⟩
abbrev cX0_foldersOn : ByteArray := prog_1_method_49_code
def yX0_foldersOn : MethodName := ⟨RX0, "foldersOn", "(II)I"⟩
abbrev cX0_isLoaded : ByteArray := prog_1_method_50_code
def yX0_isLoaded : MethodName := ⟨RX0, "isLoaded", "(II)Z"⟩
abbrev cX0_readersAt : ByteArray := prog_1_method_51_code
def yX0_readersAt : MethodName := ⟨RX0, "readersAt", "(I)I"⟩
abbrev cX0_sendReadersOn : ByteArray := prog_1_method_52_code
def yX0_sendReadersOn : MethodName := ⟨RX0, "sendReadersOn", "(II)V"⟩
def RX1 : String := "ShelfMarksModel"
def TX1 : u_T := fun k => match k with
  | _ => ("", "", "", false)
def tyX1 : Nat → FieldType := fun k => match k with
  | _ => .int
abbrev wsX10 : List Cond := u_ws RX1 TX1 0
theorem nmX1 : ∀ a, a < 0 → ∀ b, b < 0 → a ≠ b → (TX1 a).2.1 ≠ (TX1 b).2.1 := by decide +kernel
theorem tyX1_ok : ∀ k, k < 0 → parseFieldDescriptor (TX1 k).2.2.1 = some (tyX1 k) := by decide +kernel
def RJ9 : String := "java/lang/Math"
def TJ9 : u_T := fun k => match k with
  | _ => ("", "", "", false)
def tyJ9 : Nat → FieldType := fun k => match k with
  | _ => .int
abbrev wsJ90 : List Cond := u_ws RJ9 TJ9 0
theorem nmJ9 : ∀ a, a < 0 → ∀ b, b < 0 → a ≠ b → (TJ9 a).2.1 ≠ (TJ9 b).2.1 := by decide +kernel
theorem tyJ9_ok : ∀ k, k < 0 → parseFieldDescriptor (TJ9 k).2.2.1 = some (tyJ9 k) := by decide +kernel
abbrev cJ9_max_7cf53 : ByteArray := prog_8_method_65_code
def yJ9_max_7cf53 : MethodName := ⟨RJ9, "max", "(II)I"⟩
def RJ0 : String := "java/lang/String"
def TJ0 : u_T := fun k => match k with
  | _ => ("", "", "", false)
def tyJ0 : Nat → FieldType := fun k => match k with
  | _ => .int
abbrev wsJ00 : List Cond := u_ws RJ0 TJ0 0
theorem nmJ0 : ∀ a, a < 0 → ∀ b, b < 0 → a ≠ b → (TJ0 a).2.1 ≠ (TJ0 b).2.1 := by decide +kernel
theorem tyJ0_ok : ∀ k, k < 0 → parseFieldDescriptor (TJ0 k).2.2.1 = some (tyJ0 k) := by decide +kernel
def RL : String := "ShelfMarksLaw"
abbrev cL_drawn : ByteArray := method_2_code
def yL_drawn : MethodName := ⟨RL, "drawn", "([II)I"⟩
abbrev cL_done : ByteArray := method_3_code
def yL_done : MethodName := ⟨RL, "done", "(LShelfMarks;III)I"⟩
abbrev cL_asked : ByteArray := method_4_code
def yL_asked : MethodName := ⟨RL, "asked", "(LShelfMarks;II)I"⟩
abbrev cL_folderAt : ByteArray := method_5_code
def yL_folderAt : MethodName := ⟨RL, "folderAt", "(LShelfMarks;I)I"⟩
abbrev cL_passing : ByteArray := method_6_code
def yL_passing : MethodName := ⟨RL, "passing", "(LShelfMarks;I)Z"⟩
abbrev cL_areAlike : ByteArray := method_7_code
def yL_areAlike : MethodName := ⟨RL, "areAlike", "(LShelfMarks;LShelfMarks;[I)Z"⟩
abbrev cL_step : ByteArray := method_8_code
def yL_step : MethodName := ⟨RL, "step", "(LShelfMarks;LShelfMarks;[II)Z"⟩
abbrev cL_law : ByteArray := code
def yL_law : MethodName := ⟨RL, "law", "([I)Z"⟩
def wsX0_init : List Cond := .code yX0_init cX0_init 2 none :: ([.methodLink RX0 1 objectInit, .instanceMethod objectInit, .code objectInit ⟨#[0xb1]⟩ 1 none, .arrayClass .int, .fieldLink RX0 9 "ShelfMarks" "folders" "[I", .fieldLink RX0 13 "ShelfMarks" "marks" "[I", .fieldLink RX0 16 "ShelfMarks" "LOADED_FROM" "[I", .fieldLink RX0 19 "ShelfMarks" "spreads" "[I", .fieldLink RX0 22 "ShelfMarks" "readerFolders" "[I", .fieldLink RX0 25 "ShelfMarks" "readerCounts" "[I"] ++ wsX00)
def wsX0_requireThatOneMayCome : List Cond := .code yX0_requireThatOneMayCome cX0_requireThatOneMayCome 1 none :: ([.classLink RX0 109 "java/lang/IllegalStateException", .initialized "java/lang/IllegalStateException", .fieldLink RX0 106 "ShelfMarks" "came" "I", .fieldLink RX0 53 "ShelfMarks" "count" "I"] ++ wsX00 ++ (vx_atS RX0 113 "java/lang/IllegalStateException" ["java/lang/RuntimeException", "java/lang/Exception"]).filter goodWord)
def wsX0_nextNumber : List Cond := .code yX0_nextNumber cX0_nextNumber 2 (some .int) :: ([.fieldLink RX0 106 "ShelfMarks" "came" "I"] ++ wsX00)
def wsX0_isPlace : List Cond := .code yX0_isPlace cX0_isPlace 2 (some .boolean) :: ([.fieldLink RX0 53 "ShelfMarks" "count" "I", .fieldLink RX0 9 "ShelfMarks" "folders" "[I", .fieldLink RX0 13 "ShelfMarks" "marks" "[I"] ++ wsX00)
def wsX0_markAt : List Cond := .code yX0_markAt cX0_markAt 2 (some .int) :: ([.fieldLink RX0 13 "ShelfMarks" "marks" "[I", .methodLink RX0 118 yX0_isPlace, .instanceMethod yX0_isPlace, .selects RX0 yX0_isPlace yX0_isPlace, .initialized RX0, .code yX0_isPlace cX0_isPlace 2 (some .boolean), .fieldLink RX0 53 "ShelfMarks" "count" "I", .fieldLink RX0 9 "ShelfMarks" "folders" "[I"] ++ wsX00)
def wsX0_hasFreeMark : List Cond := .code yX0_hasFreeMark cX0_hasFreeMark 2 (some .boolean) :: ([.methodLink RX0 67 yX0_markAt, .instanceMethod yX0_markAt, .selects RX0 yX0_markAt yX0_markAt, .initialized RX0, .code yX0_markAt cX0_markAt 2 (some .int), .fieldLink RX0 13 "ShelfMarks" "marks" "[I", .methodLink RX0 118 yX0_isPlace, .instanceMethod yX0_isPlace, .selects RX0 yX0_isPlace yX0_isPlace, .code yX0_isPlace cX0_isPlace 2 (some .boolean), .fieldLink RX0 53 "ShelfMarks" "count" "I", .fieldLink RX0 9 "ShelfMarks" "folders" "[I"] ++ wsX00)
def wsX0_shelfToSpread : List Cond := .code yX0_shelfToSpread cX0_shelfToSpread 3 (some .int) :: ([.methodLink RX0 151 Lib.Math.max.name, .static Lib.Math.max.name, .initialized "java/lang/Math", .code Lib.Math.max.name Lib.Math.max.code 2 (some .int), .methodLink RX0 67 yX0_markAt, .instanceMethod yX0_markAt, .selects RX0 yX0_markAt yX0_markAt, .initialized RX0, .code yX0_markAt cX0_markAt 2 (some .int), .fieldLink RX0 13 "ShelfMarks" "marks" "[I", .methodLink RX0 118 yX0_isPlace, .instanceMethod yX0_isPlace, .selects RX0 yX0_isPlace yX0_isPlace, .code yX0_isPlace cX0_isPlace 2 (some .boolean), .fieldLink RX0 53 "ShelfMarks" "count" "I", .fieldLink RX0 9 "ShelfMarks" "folders" "[I"] ++ wsX00)
def wsX0_firstMark : List Cond := .code yX0_firstMark cX0_firstMark 2 (some .int) :: ([])
def wsX0_marksBelow : List Cond := .code yX0_marksBelow cX0_marksBelow 3 (some .int) :: ([.fieldLink RX0 53 "ShelfMarks" "count" "I", .fieldLink RX0 13 "ShelfMarks" "marks" "[I"] ++ wsX00)
def wsX0_foldersOn : List Cond := .code yX0_foldersOn cX0_foldersOn 3 (some .int) :: ([.methodLink RX0 141 yX0_firstMark, .static yX0_firstMark, .initialized RX0, .code yX0_firstMark cX0_firstMark 2 (some .int), .methodLink RX0 70 yX0_marksBelow, .instanceMethod yX0_marksBelow, .selects RX0 yX0_marksBelow yX0_marksBelow, .code yX0_marksBelow cX0_marksBelow 3 (some .int), .fieldLink RX0 53 "ShelfMarks" "count" "I", .fieldLink RX0 13 "ShelfMarks" "marks" "[I"] ++ wsX00)
def wsX0_isLoaded : List Cond := .code yX0_isLoaded cX0_isLoaded 3 (some .boolean) :: ([.fieldLink RX0 16 "ShelfMarks" "LOADED_FROM" "[I", .methodLink RX0 84 yX0_foldersOn, .instanceMethod yX0_foldersOn, .selects RX0 yX0_foldersOn yX0_foldersOn, .initialized RX0, .code yX0_foldersOn cX0_foldersOn 3 (some .int), .methodLink RX0 141 yX0_firstMark, .static yX0_firstMark, .code yX0_firstMark cX0_firstMark 2 (some .int), .methodLink RX0 70 yX0_marksBelow, .instanceMethod yX0_marksBelow, .selects RX0 yX0_marksBelow yX0_marksBelow, .code yX0_marksBelow cX0_marksBelow 3 (some .int), .fieldLink RX0 53 "ShelfMarks" "count" "I", .fieldLink RX0 13 "ShelfMarks" "marks" "[I"] ++ wsX00)
def wsX0_levelToSpread_r1 : List Cond := [Cond.fieldLink RX0 16 "ShelfMarks" "LOADED_FROM" "[I", Cond.methodLink RX0 138 yX0_shelfToSpread, Cond.instanceMethod yX0_shelfToSpread, Cond.selects RX0 yX0_shelfToSpread yX0_shelfToSpread, Cond.initialized RX0, Cond.code yX0_shelfToSpread cX0_shelfToSpread 3 (some .int), Cond.methodLink RX0 151 Lib.Math.max.name, Cond.static Lib.Math.max.name, Cond.initialized "java/lang/Math", Cond.code Lib.Math.max.name Lib.Math.max.code 2 (some .int), Cond.methodLink RX0 67 yX0_markAt, Cond.instanceMethod yX0_markAt, Cond.selects RX0 yX0_markAt yX0_markAt, Cond.code yX0_markAt cX0_markAt 2 (some .int), Cond.fieldLink RX0 13 "ShelfMarks" "marks" "[I", Cond.methodLink RX0 118 yX0_isPlace, Cond.instanceMethod yX0_isPlace, Cond.selects RX0 yX0_isPlace yX0_isPlace, Cond.code yX0_isPlace cX0_isPlace 2 (some .boolean), Cond.fieldLink RX0 53 "ShelfMarks" "count" "I", Cond.fieldLink RX0 9 "ShelfMarks" "folders" "[I", Cond.methodLink RX0 88 yX0_isLoaded, Cond.instanceMethod yX0_isLoaded, Cond.selects RX0 yX0_isLoaded yX0_isLoaded]
def wsX0_levelToSpread_r2 : List Cond := [Cond.code yX0_isLoaded cX0_isLoaded 3 (some .boolean), Cond.methodLink RX0 84 yX0_foldersOn, Cond.instanceMethod yX0_foldersOn, Cond.selects RX0 yX0_foldersOn yX0_foldersOn, Cond.code yX0_foldersOn cX0_foldersOn 3 (some .int), Cond.methodLink RX0 141 yX0_firstMark, Cond.static yX0_firstMark, Cond.code yX0_firstMark cX0_firstMark 2 (some .int), Cond.methodLink RX0 70 yX0_marksBelow, Cond.instanceMethod yX0_marksBelow, Cond.selects RX0 yX0_marksBelow yX0_marksBelow, Cond.code yX0_marksBelow cX0_marksBelow 3 (some .int)]
def wsX0_levelToSpread : List Cond := .code yX0_levelToSpread cX0_levelToSpread 4 (some .int) :: ((wsX0_levelToSpread_r1 ++ wsX0_levelToSpread_r2) ++ wsX00)
def wsX0_shelfSize : List Cond := .code yX0_shelfSize cX0_shelfSize 1 (some .int) :: ([])
def wsX0_spreadMark : List Cond := .code yX0_spreadMark cX0_spreadMark 5 (some .int) :: ([.methodLink RX0 156 yX0_shelfSize, .static yX0_shelfSize, .initialized RX0, .code yX0_shelfSize cX0_shelfSize 1 (some .int), .methodLink RX0 141 yX0_firstMark, .static yX0_firstMark, .code yX0_firstMark cX0_firstMark 2 (some .int)])
def wsX0_movesByPuttingIn_r1 : List Cond := [Cond.methodLink RX0 126 yX0_hasFreeMark, Cond.instanceMethod yX0_hasFreeMark, Cond.selects RX0 yX0_hasFreeMark yX0_hasFreeMark, Cond.initialized RX0, Cond.code yX0_hasFreeMark cX0_hasFreeMark 2 (some .boolean), Cond.methodLink RX0 67 yX0_markAt, Cond.instanceMethod yX0_markAt, Cond.selects RX0 yX0_markAt yX0_markAt, Cond.code yX0_markAt cX0_markAt 2 (some .int), Cond.fieldLink RX0 13 "ShelfMarks" "marks" "[I", Cond.methodLink RX0 118 yX0_isPlace, Cond.instanceMethod yX0_isPlace, Cond.selects RX0 yX0_isPlace yX0_isPlace, Cond.code yX0_isPlace cX0_isPlace 2 (some .boolean), Cond.fieldLink RX0 53 "ShelfMarks" "count" "I", Cond.fieldLink RX0 9 "ShelfMarks" "folders" "[I", Cond.methodLink RX0 135 yX0_levelToSpread, Cond.instanceMethod yX0_levelToSpread, Cond.selects RX0 yX0_levelToSpread yX0_levelToSpread, Cond.code yX0_levelToSpread cX0_levelToSpread 4 (some .int), Cond.fieldLink RX0 16 "ShelfMarks" "LOADED_FROM" "[I", Cond.methodLink RX0 138 yX0_shelfToSpread, Cond.instanceMethod yX0_shelfToSpread, Cond.selects RX0 yX0_shelfToSpread yX0_shelfToSpread]
def wsX0_movesByPuttingIn_r2 : List Cond := [Cond.code yX0_shelfToSpread cX0_shelfToSpread 3 (some .int), Cond.methodLink RX0 151 Lib.Math.max.name, Cond.static Lib.Math.max.name, Cond.initialized "java/lang/Math", Cond.code Lib.Math.max.name Lib.Math.max.code 2 (some .int), Cond.methodLink RX0 88 yX0_isLoaded, Cond.instanceMethod yX0_isLoaded, Cond.selects RX0 yX0_isLoaded yX0_isLoaded, Cond.code yX0_isLoaded cX0_isLoaded 3 (some .boolean), Cond.methodLink RX0 84 yX0_foldersOn, Cond.instanceMethod yX0_foldersOn, Cond.selects RX0 yX0_foldersOn yX0_foldersOn, Cond.code yX0_foldersOn cX0_foldersOn 3 (some .int), Cond.methodLink RX0 141 yX0_firstMark, Cond.static yX0_firstMark, Cond.code yX0_firstMark cX0_firstMark 2 (some .int), Cond.methodLink RX0 70 yX0_marksBelow, Cond.instanceMethod yX0_marksBelow, Cond.selects RX0 yX0_marksBelow yX0_marksBelow, Cond.code yX0_marksBelow cX0_marksBelow 3 (some .int), Cond.methodLink RX0 144 yX0_spreadMark, Cond.static yX0_spreadMark, Cond.code yX0_spreadMark cX0_spreadMark 5 (some .int), Cond.methodLink RX0 156 yX0_shelfSize]
def wsX0_movesByPuttingIn_r3 : List Cond := [Cond.static yX0_shelfSize, Cond.code yX0_shelfSize cX0_shelfSize 1 (some .int)]
def wsX0_movesByPuttingIn : List Cond := .code yX0_movesByPuttingIn cX0_movesByPuttingIn 9 (some .int) :: ((wsX0_movesByPuttingIn_r1 ++ (wsX0_movesByPuttingIn_r2 ++ wsX0_movesByPuttingIn_r3)) ++ wsX00)
def wsX0_folderAt : List Cond := .code yX0_folderAt cX0_folderAt 2 (some .int) :: ([.fieldLink RX0 9 "ShelfMarks" "folders" "[I", .methodLink RX0 118 yX0_isPlace, .instanceMethod yX0_isPlace, .selects RX0 yX0_isPlace yX0_isPlace, .initialized RX0, .code yX0_isPlace cX0_isPlace 2 (some .boolean), .fieldLink RX0 53 "ShelfMarks" "count" "I", .fieldLink RX0 13 "ShelfMarks" "marks" "[I"] ++ wsX00)
def wsX0_set : List Cond := .code yX0_set cX0_set 4 none :: ([.fieldLink RX0 9 "ShelfMarks" "folders" "[I", .fieldLink RX0 13 "ShelfMarks" "marks" "[I", .methodLink RX0 118 yX0_isPlace, .instanceMethod yX0_isPlace, .selects RX0 yX0_isPlace yX0_isPlace, .initialized RX0, .code yX0_isPlace cX0_isPlace 2 (some .boolean), .fieldLink RX0 53 "ShelfMarks" "count" "I"] ++ wsX00)
def wsX0_insertAt : List Cond := .code yX0_insertAt cX0_insertAt 5 none :: ([.fieldLink RX0 53 "ShelfMarks" "count" "I", .methodLink RX0 43 yX0_folderAt, .instanceMethod yX0_folderAt, .selects RX0 yX0_folderAt yX0_folderAt, .initialized RX0, .code yX0_folderAt cX0_folderAt 2 (some .int), .fieldLink RX0 9 "ShelfMarks" "folders" "[I", .methodLink RX0 118 yX0_isPlace, .instanceMethod yX0_isPlace, .selects RX0 yX0_isPlace yX0_isPlace, .code yX0_isPlace cX0_isPlace 2 (some .boolean), .fieldLink RX0 13 "ShelfMarks" "marks" "[I", .methodLink RX0 67 yX0_markAt, .instanceMethod yX0_markAt, .selects RX0 yX0_markAt yX0_markAt, .code yX0_markAt cX0_markAt 2 (some .int), .methodLink RX0 122 yX0_set, .instanceMethod yX0_set, .selects RX0 yX0_set yX0_set, .code yX0_set cX0_set 4 none] ++ wsX00)
def wsX0_countSpread : List Cond := .code yX0_countSpread cX0_countSpread 2 none :: ([.fieldLink RX0 19 "ShelfMarks" "spreads" "[I"] ++ wsX00)
def wsX0_spreadOut_r1 : List Cond := [Cond.methodLink RX0 135 yX0_levelToSpread, Cond.instanceMethod yX0_levelToSpread, Cond.selects RX0 yX0_levelToSpread yX0_levelToSpread, Cond.initialized RX0, Cond.code yX0_levelToSpread cX0_levelToSpread 4 (some .int), Cond.fieldLink RX0 16 "ShelfMarks" "LOADED_FROM" "[I", Cond.methodLink RX0 138 yX0_shelfToSpread, Cond.instanceMethod yX0_shelfToSpread, Cond.selects RX0 yX0_shelfToSpread yX0_shelfToSpread, Cond.code yX0_shelfToSpread cX0_shelfToSpread 3 (some .int), Cond.methodLink RX0 151 Lib.Math.max.name, Cond.static Lib.Math.max.name, Cond.initialized "java/lang/Math", Cond.code Lib.Math.max.name Lib.Math.max.code 2 (some .int), Cond.methodLink RX0 67 yX0_markAt, Cond.instanceMethod yX0_markAt, Cond.selects RX0 yX0_markAt yX0_markAt, Cond.code yX0_markAt cX0_markAt 2 (some .int), Cond.fieldLink RX0 13 "ShelfMarks" "marks" "[I", Cond.methodLink RX0 118 yX0_isPlace, Cond.instanceMethod yX0_isPlace, Cond.selects RX0 yX0_isPlace yX0_isPlace, Cond.code yX0_isPlace cX0_isPlace 2 (some .boolean), Cond.fieldLink RX0 53 "ShelfMarks" "count" "I"]
def wsX0_spreadOut_r2 : List Cond := [Cond.fieldLink RX0 9 "ShelfMarks" "folders" "[I", Cond.methodLink RX0 88 yX0_isLoaded, Cond.instanceMethod yX0_isLoaded, Cond.selects RX0 yX0_isLoaded yX0_isLoaded, Cond.code yX0_isLoaded cX0_isLoaded 3 (some .boolean), Cond.methodLink RX0 84 yX0_foldersOn, Cond.instanceMethod yX0_foldersOn, Cond.selects RX0 yX0_foldersOn yX0_foldersOn, Cond.code yX0_foldersOn cX0_foldersOn 3 (some .int), Cond.methodLink RX0 141 yX0_firstMark, Cond.static yX0_firstMark, Cond.code yX0_firstMark cX0_firstMark 2 (some .int), Cond.methodLink RX0 70 yX0_marksBelow, Cond.instanceMethod yX0_marksBelow, Cond.selects RX0 yX0_marksBelow yX0_marksBelow, Cond.code yX0_marksBelow cX0_marksBelow 3 (some .int), Cond.methodLink RX0 129 yX0_insertAt, Cond.instanceMethod yX0_insertAt, Cond.selects RX0 yX0_insertAt yX0_insertAt, Cond.code yX0_insertAt cX0_insertAt 5 none, Cond.methodLink RX0 43 yX0_folderAt, Cond.instanceMethod yX0_folderAt, Cond.selects RX0 yX0_folderAt yX0_folderAt, Cond.code yX0_folderAt cX0_folderAt 2 (some .int)]
def wsX0_spreadOut_r3 : List Cond := [Cond.methodLink RX0 122 yX0_set, Cond.instanceMethod yX0_set, Cond.selects RX0 yX0_set yX0_set, Cond.code yX0_set cX0_set 4 none, Cond.methodLink RX0 144 yX0_spreadMark, Cond.static yX0_spreadMark, Cond.code yX0_spreadMark cX0_spreadMark 5 (some .int), Cond.methodLink RX0 156 yX0_shelfSize, Cond.static yX0_shelfSize, Cond.code yX0_shelfSize cX0_shelfSize 1 (some .int), Cond.methodLink RX0 148 yX0_countSpread, Cond.instanceMethod yX0_countSpread, Cond.selects RX0 yX0_countSpread yX0_countSpread, Cond.code yX0_countSpread cX0_countSpread 2 none, Cond.fieldLink RX0 19 "ShelfMarks" "spreads" "[I"]
def wsX0_spreadOut : List Cond := .code yX0_spreadOut cX0_spreadOut 8 none :: ((wsX0_spreadOut_r1 ++ (wsX0_spreadOut_r2 ++ wsX0_spreadOut_r3)) ++ wsX00)
def wsX0_putIn_r1 : List Cond := [Cond.fieldLink RX0 95 "ShelfMarks" "moves" "I", Cond.methodLink RX0 92 yX0_movesByPuttingIn, Cond.instanceMethod yX0_movesByPuttingIn, Cond.selects RX0 yX0_movesByPuttingIn yX0_movesByPuttingIn, Cond.initialized RX0, Cond.code yX0_movesByPuttingIn cX0_movesByPuttingIn 9 (some .int), Cond.methodLink RX0 126 yX0_hasFreeMark, Cond.instanceMethod yX0_hasFreeMark, Cond.selects RX0 yX0_hasFreeMark yX0_hasFreeMark, Cond.code yX0_hasFreeMark cX0_hasFreeMark 2 (some .boolean), Cond.methodLink RX0 67 yX0_markAt, Cond.instanceMethod yX0_markAt, Cond.selects RX0 yX0_markAt yX0_markAt, Cond.code yX0_markAt cX0_markAt 2 (some .int), Cond.fieldLink RX0 13 "ShelfMarks" "marks" "[I", Cond.methodLink RX0 118 yX0_isPlace, Cond.instanceMethod yX0_isPlace, Cond.selects RX0 yX0_isPlace yX0_isPlace, Cond.code yX0_isPlace cX0_isPlace 2 (some .boolean), Cond.fieldLink RX0 53 "ShelfMarks" "count" "I", Cond.fieldLink RX0 9 "ShelfMarks" "folders" "[I", Cond.methodLink RX0 135 yX0_levelToSpread, Cond.instanceMethod yX0_levelToSpread, Cond.selects RX0 yX0_levelToSpread yX0_levelToSpread]
def wsX0_putIn_r2 : List Cond := [Cond.code yX0_levelToSpread cX0_levelToSpread 4 (some .int), Cond.fieldLink RX0 16 "ShelfMarks" "LOADED_FROM" "[I", Cond.methodLink RX0 138 yX0_shelfToSpread, Cond.instanceMethod yX0_shelfToSpread, Cond.selects RX0 yX0_shelfToSpread yX0_shelfToSpread, Cond.code yX0_shelfToSpread cX0_shelfToSpread 3 (some .int), Cond.methodLink RX0 151 Lib.Math.max.name, Cond.static Lib.Math.max.name, Cond.initialized "java/lang/Math", Cond.code Lib.Math.max.name Lib.Math.max.code 2 (some .int), Cond.methodLink RX0 88 yX0_isLoaded, Cond.instanceMethod yX0_isLoaded, Cond.selects RX0 yX0_isLoaded yX0_isLoaded, Cond.code yX0_isLoaded cX0_isLoaded 3 (some .boolean), Cond.methodLink RX0 84 yX0_foldersOn, Cond.instanceMethod yX0_foldersOn, Cond.selects RX0 yX0_foldersOn yX0_foldersOn, Cond.code yX0_foldersOn cX0_foldersOn 3 (some .int), Cond.methodLink RX0 141 yX0_firstMark, Cond.static yX0_firstMark, Cond.code yX0_firstMark cX0_firstMark 2 (some .int), Cond.methodLink RX0 70 yX0_marksBelow, Cond.instanceMethod yX0_marksBelow, Cond.selects RX0 yX0_marksBelow yX0_marksBelow]
def wsX0_putIn_r3 : List Cond := [Cond.code yX0_marksBelow cX0_marksBelow 3 (some .int), Cond.methodLink RX0 144 yX0_spreadMark, Cond.static yX0_spreadMark, Cond.code yX0_spreadMark cX0_spreadMark 5 (some .int), Cond.methodLink RX0 156 yX0_shelfSize, Cond.static yX0_shelfSize, Cond.code yX0_shelfSize cX0_shelfSize 1 (some .int), Cond.methodLink RX0 129 yX0_insertAt, Cond.instanceMethod yX0_insertAt, Cond.selects RX0 yX0_insertAt yX0_insertAt, Cond.code yX0_insertAt cX0_insertAt 5 none, Cond.methodLink RX0 43 yX0_folderAt, Cond.instanceMethod yX0_folderAt, Cond.selects RX0 yX0_folderAt yX0_folderAt, Cond.code yX0_folderAt cX0_folderAt 2 (some .int), Cond.methodLink RX0 122 yX0_set, Cond.instanceMethod yX0_set, Cond.selects RX0 yX0_set yX0_set, Cond.code yX0_set cX0_set 4 none, Cond.methodLink RX0 132 yX0_spreadOut, Cond.instanceMethod yX0_spreadOut, Cond.selects RX0 yX0_spreadOut yX0_spreadOut, Cond.code yX0_spreadOut cX0_spreadOut 8 none, Cond.methodLink RX0 148 yX0_countSpread]
def wsX0_putIn_r4 : List Cond := [Cond.instanceMethod yX0_countSpread, Cond.selects RX0 yX0_countSpread yX0_countSpread, Cond.code yX0_countSpread cX0_countSpread 2 none, Cond.fieldLink RX0 19 "ShelfMarks" "spreads" "[I"]
def wsX0_putIn : List Cond := .code yX0_putIn cX0_putIn 3 none :: ((wsX0_putIn_r1 ++ (wsX0_putIn_r2 ++ (wsX0_putIn_r3 ++ wsX0_putIn_r4))) ++ wsX00)
def wsX0_putFirst_r1 : List Cond := [Cond.methodLink RX0 28 yX0_requireThatOneMayCome, Cond.instanceMethod yX0_requireThatOneMayCome, Cond.selects RX0 yX0_requireThatOneMayCome yX0_requireThatOneMayCome, Cond.initialized RX0, Cond.code yX0_requireThatOneMayCome cX0_requireThatOneMayCome 1 none, Cond.classLink RX0 109 "java/lang/IllegalStateException", Cond.initialized "java/lang/IllegalStateException", Cond.fieldLink RX0 106 "ShelfMarks" "came" "I", Cond.fieldLink RX0 53 "ShelfMarks" "count" "I", Cond.methodLink RX0 31 yX0_nextNumber, Cond.instanceMethod yX0_nextNumber, Cond.selects RX0 yX0_nextNumber yX0_nextNumber, Cond.code yX0_nextNumber cX0_nextNumber 2 (some .int), Cond.methodLink RX0 35 yX0_putIn, Cond.instanceMethod yX0_putIn, Cond.selects RX0 yX0_putIn yX0_putIn, Cond.code yX0_putIn cX0_putIn 3 none, Cond.fieldLink RX0 95 "ShelfMarks" "moves" "I", Cond.methodLink RX0 92 yX0_movesByPuttingIn, Cond.instanceMethod yX0_movesByPuttingIn, Cond.selects RX0 yX0_movesByPuttingIn yX0_movesByPuttingIn, Cond.code yX0_movesByPuttingIn cX0_movesByPuttingIn 9 (some .int), Cond.methodLink RX0 126 yX0_hasFreeMark, Cond.instanceMethod yX0_hasFreeMark]
def wsX0_putFirst_r2 : List Cond := [Cond.selects RX0 yX0_hasFreeMark yX0_hasFreeMark, Cond.code yX0_hasFreeMark cX0_hasFreeMark 2 (some .boolean), Cond.methodLink RX0 67 yX0_markAt, Cond.instanceMethod yX0_markAt, Cond.selects RX0 yX0_markAt yX0_markAt, Cond.code yX0_markAt cX0_markAt 2 (some .int), Cond.fieldLink RX0 13 "ShelfMarks" "marks" "[I", Cond.methodLink RX0 118 yX0_isPlace, Cond.instanceMethod yX0_isPlace, Cond.selects RX0 yX0_isPlace yX0_isPlace, Cond.code yX0_isPlace cX0_isPlace 2 (some .boolean), Cond.fieldLink RX0 9 "ShelfMarks" "folders" "[I", Cond.methodLink RX0 135 yX0_levelToSpread, Cond.instanceMethod yX0_levelToSpread, Cond.selects RX0 yX0_levelToSpread yX0_levelToSpread, Cond.code yX0_levelToSpread cX0_levelToSpread 4 (some .int), Cond.fieldLink RX0 16 "ShelfMarks" "LOADED_FROM" "[I", Cond.methodLink RX0 138 yX0_shelfToSpread, Cond.instanceMethod yX0_shelfToSpread, Cond.selects RX0 yX0_shelfToSpread yX0_shelfToSpread, Cond.code yX0_shelfToSpread cX0_shelfToSpread 3 (some .int), Cond.methodLink RX0 151 Lib.Math.max.name, Cond.static Lib.Math.max.name, Cond.initialized "java/lang/Math"]
def wsX0_putFirst_r3 : List Cond := [Cond.code Lib.Math.max.name Lib.Math.max.code 2 (some .int), Cond.methodLink RX0 88 yX0_isLoaded, Cond.instanceMethod yX0_isLoaded, Cond.selects RX0 yX0_isLoaded yX0_isLoaded, Cond.code yX0_isLoaded cX0_isLoaded 3 (some .boolean), Cond.methodLink RX0 84 yX0_foldersOn, Cond.instanceMethod yX0_foldersOn, Cond.selects RX0 yX0_foldersOn yX0_foldersOn, Cond.code yX0_foldersOn cX0_foldersOn 3 (some .int), Cond.methodLink RX0 141 yX0_firstMark, Cond.static yX0_firstMark, Cond.code yX0_firstMark cX0_firstMark 2 (some .int), Cond.methodLink RX0 70 yX0_marksBelow, Cond.instanceMethod yX0_marksBelow, Cond.selects RX0 yX0_marksBelow yX0_marksBelow, Cond.code yX0_marksBelow cX0_marksBelow 3 (some .int), Cond.methodLink RX0 144 yX0_spreadMark, Cond.static yX0_spreadMark, Cond.code yX0_spreadMark cX0_spreadMark 5 (some .int), Cond.methodLink RX0 156 yX0_shelfSize, Cond.static yX0_shelfSize, Cond.code yX0_shelfSize cX0_shelfSize 1 (some .int), Cond.methodLink RX0 129 yX0_insertAt, Cond.instanceMethod yX0_insertAt]
def wsX0_putFirst_r4 : List Cond := [Cond.selects RX0 yX0_insertAt yX0_insertAt, Cond.code yX0_insertAt cX0_insertAt 5 none, Cond.methodLink RX0 43 yX0_folderAt, Cond.instanceMethod yX0_folderAt, Cond.selects RX0 yX0_folderAt yX0_folderAt, Cond.code yX0_folderAt cX0_folderAt 2 (some .int), Cond.methodLink RX0 122 yX0_set, Cond.instanceMethod yX0_set, Cond.selects RX0 yX0_set yX0_set, Cond.code yX0_set cX0_set 4 none, Cond.methodLink RX0 132 yX0_spreadOut, Cond.instanceMethod yX0_spreadOut, Cond.selects RX0 yX0_spreadOut yX0_spreadOut, Cond.code yX0_spreadOut cX0_spreadOut 8 none, Cond.methodLink RX0 148 yX0_countSpread, Cond.instanceMethod yX0_countSpread, Cond.selects RX0 yX0_countSpread yX0_countSpread, Cond.code yX0_countSpread cX0_countSpread 2 none, Cond.fieldLink RX0 19 "ShelfMarks" "spreads" "[I"]
def wsX0_putFirst : List Cond := .code yX0_putFirst cX0_putFirst 2 (some .int) :: ((wsX0_putFirst_r1 ++ (wsX0_putFirst_r2 ++ (wsX0_putFirst_r3 ++ wsX0_putFirst_r4))) ++ wsX00 ++ (vx_atS RX0 113 "java/lang/IllegalStateException" ["java/lang/RuntimeException", "java/lang/Exception"]).filter goodWord)
def wsX0_placeOf : List Cond := .code yX0_placeOf cX0_placeOf 3 (some .int) :: ([.fieldLink RX0 53 "ShelfMarks" "count" "I", .fieldLink RX0 9 "ShelfMarks" "folders" "[I"] ++ wsX00)
def wsX0_requirePlace : List Cond := .code yX0_requirePlace cX0_requirePlace 3 (some .int) :: ([.classLink RX0 79 "java/lang/IndexOutOfBoundsException", .initialized "java/lang/IndexOutOfBoundsException", .methodLink RX0 64 yX0_placeOf, .instanceMethod yX0_placeOf, .selects RX0 yX0_placeOf yX0_placeOf, .initialized RX0, .code yX0_placeOf cX0_placeOf 3 (some .int), .fieldLink RX0 53 "ShelfMarks" "count" "I", .fieldLink RX0 9 "ShelfMarks" "folders" "[I"] ++ wsX00 ++ (vx_atS RX0 83 "java/lang/IndexOutOfBoundsException" ["java/lang/RuntimeException", "java/lang/Exception"]).filter goodWord)
def wsX0_putBehind_r1 : List Cond := [Cond.methodLink RX0 39 yX0_requirePlace, Cond.instanceMethod yX0_requirePlace, Cond.selects RX0 yX0_requirePlace yX0_requirePlace, Cond.initialized RX0, Cond.code yX0_requirePlace cX0_requirePlace 3 (some .int), Cond.classLink RX0 79 "java/lang/IndexOutOfBoundsException", Cond.initialized "java/lang/IndexOutOfBoundsException", Cond.methodLink RX0 64 yX0_placeOf, Cond.instanceMethod yX0_placeOf, Cond.selects RX0 yX0_placeOf yX0_placeOf, Cond.code yX0_placeOf cX0_placeOf 3 (some .int), Cond.fieldLink RX0 53 "ShelfMarks" "count" "I", Cond.fieldLink RX0 9 "ShelfMarks" "folders" "[I", Cond.methodLink RX0 28 yX0_requireThatOneMayCome, Cond.instanceMethod yX0_requireThatOneMayCome, Cond.selects RX0 yX0_requireThatOneMayCome yX0_requireThatOneMayCome, Cond.code yX0_requireThatOneMayCome cX0_requireThatOneMayCome 1 none, Cond.classLink RX0 109 "java/lang/IllegalStateException", Cond.initialized "java/lang/IllegalStateException", Cond.fieldLink RX0 106 "ShelfMarks" "came" "I", Cond.methodLink RX0 31 yX0_nextNumber, Cond.instanceMethod yX0_nextNumber, Cond.selects RX0 yX0_nextNumber yX0_nextNumber, Cond.code yX0_nextNumber cX0_nextNumber 2 (some .int)]
def wsX0_putBehind_r2 : List Cond := [Cond.methodLink RX0 35 yX0_putIn, Cond.instanceMethod yX0_putIn, Cond.selects RX0 yX0_putIn yX0_putIn, Cond.code yX0_putIn cX0_putIn 3 none, Cond.fieldLink RX0 95 "ShelfMarks" "moves" "I", Cond.methodLink RX0 92 yX0_movesByPuttingIn, Cond.instanceMethod yX0_movesByPuttingIn, Cond.selects RX0 yX0_movesByPuttingIn yX0_movesByPuttingIn, Cond.code yX0_movesByPuttingIn cX0_movesByPuttingIn 9 (some .int), Cond.methodLink RX0 126 yX0_hasFreeMark, Cond.instanceMethod yX0_hasFreeMark, Cond.selects RX0 yX0_hasFreeMark yX0_hasFreeMark, Cond.code yX0_hasFreeMark cX0_hasFreeMark 2 (some .boolean), Cond.methodLink RX0 67 yX0_markAt, Cond.instanceMethod yX0_markAt, Cond.selects RX0 yX0_markAt yX0_markAt, Cond.code yX0_markAt cX0_markAt 2 (some .int), Cond.fieldLink RX0 13 "ShelfMarks" "marks" "[I", Cond.methodLink RX0 118 yX0_isPlace, Cond.instanceMethod yX0_isPlace, Cond.selects RX0 yX0_isPlace yX0_isPlace, Cond.code yX0_isPlace cX0_isPlace 2 (some .boolean), Cond.methodLink RX0 135 yX0_levelToSpread, Cond.instanceMethod yX0_levelToSpread]
def wsX0_putBehind_r3 : List Cond := [Cond.selects RX0 yX0_levelToSpread yX0_levelToSpread, Cond.code yX0_levelToSpread cX0_levelToSpread 4 (some .int), Cond.fieldLink RX0 16 "ShelfMarks" "LOADED_FROM" "[I", Cond.methodLink RX0 138 yX0_shelfToSpread, Cond.instanceMethod yX0_shelfToSpread, Cond.selects RX0 yX0_shelfToSpread yX0_shelfToSpread, Cond.code yX0_shelfToSpread cX0_shelfToSpread 3 (some .int), Cond.methodLink RX0 151 Lib.Math.max.name, Cond.static Lib.Math.max.name, Cond.initialized "java/lang/Math", Cond.code Lib.Math.max.name Lib.Math.max.code 2 (some .int), Cond.methodLink RX0 88 yX0_isLoaded, Cond.instanceMethod yX0_isLoaded, Cond.selects RX0 yX0_isLoaded yX0_isLoaded, Cond.code yX0_isLoaded cX0_isLoaded 3 (some .boolean), Cond.methodLink RX0 84 yX0_foldersOn, Cond.instanceMethod yX0_foldersOn, Cond.selects RX0 yX0_foldersOn yX0_foldersOn, Cond.code yX0_foldersOn cX0_foldersOn 3 (some .int), Cond.methodLink RX0 141 yX0_firstMark, Cond.static yX0_firstMark, Cond.code yX0_firstMark cX0_firstMark 2 (some .int), Cond.methodLink RX0 70 yX0_marksBelow, Cond.instanceMethod yX0_marksBelow]
def wsX0_putBehind_r4 : List Cond := [Cond.selects RX0 yX0_marksBelow yX0_marksBelow, Cond.code yX0_marksBelow cX0_marksBelow 3 (some .int), Cond.methodLink RX0 144 yX0_spreadMark, Cond.static yX0_spreadMark, Cond.code yX0_spreadMark cX0_spreadMark 5 (some .int), Cond.methodLink RX0 156 yX0_shelfSize, Cond.static yX0_shelfSize, Cond.code yX0_shelfSize cX0_shelfSize 1 (some .int), Cond.methodLink RX0 129 yX0_insertAt, Cond.instanceMethod yX0_insertAt, Cond.selects RX0 yX0_insertAt yX0_insertAt, Cond.code yX0_insertAt cX0_insertAt 5 none, Cond.methodLink RX0 43 yX0_folderAt, Cond.instanceMethod yX0_folderAt, Cond.selects RX0 yX0_folderAt yX0_folderAt, Cond.code yX0_folderAt cX0_folderAt 2 (some .int), Cond.methodLink RX0 122 yX0_set, Cond.instanceMethod yX0_set, Cond.selects RX0 yX0_set yX0_set, Cond.code yX0_set cX0_set 4 none, Cond.methodLink RX0 132 yX0_spreadOut, Cond.instanceMethod yX0_spreadOut, Cond.selects RX0 yX0_spreadOut yX0_spreadOut, Cond.code yX0_spreadOut cX0_spreadOut 8 none]
def wsX0_putBehind_r5 : List Cond := [Cond.methodLink RX0 148 yX0_countSpread, Cond.instanceMethod yX0_countSpread, Cond.selects RX0 yX0_countSpread yX0_countSpread, Cond.code yX0_countSpread cX0_countSpread 2 none, Cond.fieldLink RX0 19 "ShelfMarks" "spreads" "[I"]
def wsX0_putBehind : List Cond := .code yX0_putBehind cX0_putBehind 4 (some .int) :: ((wsX0_putBehind_r1 ++ (wsX0_putBehind_r2 ++ (wsX0_putBehind_r3 ++ (wsX0_putBehind_r4 ++ wsX0_putBehind_r5)))) ++ wsX00 ++ (vx_atS RX0 83 "java/lang/IndexOutOfBoundsException" ["java/lang/RuntimeException", "java/lang/Exception"]).filter goodWord ++ (vx_atS RX0 113 "java/lang/IllegalStateException" ["java/lang/RuntimeException", "java/lang/Exception"]).filter goodWord)
def wsX0_sendReadersOn : List Cond := .code yX0_sendReadersOn cX0_sendReadersOn 4 none :: ([.fieldLink RX0 22 "ShelfMarks" "readerFolders" "[I"] ++ wsX00)
def wsX0_removeAt : List Cond := .code yX0_removeAt cX0_removeAt 3 none :: ([.fieldLink RX0 53 "ShelfMarks" "count" "I", .methodLink RX0 118 yX0_isPlace, .instanceMethod yX0_isPlace, .selects RX0 yX0_isPlace yX0_isPlace, .initialized RX0, .code yX0_isPlace cX0_isPlace 2 (some .boolean), .fieldLink RX0 9 "ShelfMarks" "folders" "[I", .fieldLink RX0 13 "ShelfMarks" "marks" "[I", .methodLink RX0 43 yX0_folderAt, .instanceMethod yX0_folderAt, .selects RX0 yX0_folderAt yX0_folderAt, .code yX0_folderAt cX0_folderAt 2 (some .int), .methodLink RX0 67 yX0_markAt, .instanceMethod yX0_markAt, .selects RX0 yX0_markAt yX0_markAt, .code yX0_markAt cX0_markAt 2 (some .int), .methodLink RX0 122 yX0_set, .instanceMethod yX0_set, .selects RX0 yX0_set yX0_set, .code yX0_set cX0_set 4 none] ++ wsX00)
def wsX0_takeOut_r1 : List Cond := [Cond.fieldLink RX0 53 "ShelfMarks" "count" "I", Cond.methodLink RX0 39 yX0_requirePlace, Cond.instanceMethod yX0_requirePlace, Cond.selects RX0 yX0_requirePlace yX0_requirePlace, Cond.initialized RX0, Cond.code yX0_requirePlace cX0_requirePlace 3 (some .int), Cond.classLink RX0 79 "java/lang/IndexOutOfBoundsException", Cond.initialized "java/lang/IndexOutOfBoundsException", Cond.methodLink RX0 64 yX0_placeOf, Cond.instanceMethod yX0_placeOf, Cond.selects RX0 yX0_placeOf yX0_placeOf, Cond.code yX0_placeOf cX0_placeOf 3 (some .int), Cond.fieldLink RX0 9 "ShelfMarks" "folders" "[I", Cond.methodLink RX0 43 yX0_folderAt, Cond.instanceMethod yX0_folderAt, Cond.selects RX0 yX0_folderAt yX0_folderAt, Cond.code yX0_folderAt cX0_folderAt 2 (some .int), Cond.methodLink RX0 118 yX0_isPlace, Cond.instanceMethod yX0_isPlace, Cond.selects RX0 yX0_isPlace yX0_isPlace, Cond.code yX0_isPlace cX0_isPlace 2 (some .boolean), Cond.fieldLink RX0 13 "ShelfMarks" "marks" "[I", Cond.methodLink RX0 46 yX0_sendReadersOn, Cond.instanceMethod yX0_sendReadersOn]
def wsX0_takeOut_r2 : List Cond := [Cond.selects RX0 yX0_sendReadersOn yX0_sendReadersOn, Cond.code yX0_sendReadersOn cX0_sendReadersOn 4 none, Cond.fieldLink RX0 22 "ShelfMarks" "readerFolders" "[I", Cond.methodLink RX0 49 yX0_removeAt, Cond.instanceMethod yX0_removeAt, Cond.selects RX0 yX0_removeAt yX0_removeAt, Cond.code yX0_removeAt cX0_removeAt 3 none, Cond.methodLink RX0 67 yX0_markAt, Cond.instanceMethod yX0_markAt, Cond.selects RX0 yX0_markAt yX0_markAt, Cond.code yX0_markAt cX0_markAt 2 (some .int), Cond.methodLink RX0 122 yX0_set, Cond.instanceMethod yX0_set, Cond.selects RX0 yX0_set yX0_set, Cond.code yX0_set cX0_set 4 none]
def wsX0_takeOut : List Cond := .code yX0_takeOut cX0_takeOut 3 (some .int) :: ((wsX0_takeOut_r1 ++ wsX0_takeOut_r2) ++ wsX00 ++ (vx_atS RX0 83 "java/lang/IndexOutOfBoundsException" ["java/lang/RuntimeException", "java/lang/Exception"]).filter goodWord)
def wsX0_carry_r1 : List Cond := [Cond.classLink RX0 57 "java/lang/IllegalArgumentException", Cond.initialized "java/lang/IllegalArgumentException", Cond.methodLink RX0 39 yX0_requirePlace, Cond.instanceMethod yX0_requirePlace, Cond.selects RX0 yX0_requirePlace yX0_requirePlace, Cond.initialized RX0, Cond.code yX0_requirePlace cX0_requirePlace 3 (some .int), Cond.classLink RX0 79 "java/lang/IndexOutOfBoundsException", Cond.initialized "java/lang/IndexOutOfBoundsException", Cond.methodLink RX0 64 yX0_placeOf, Cond.instanceMethod yX0_placeOf, Cond.selects RX0 yX0_placeOf yX0_placeOf, Cond.code yX0_placeOf cX0_placeOf 3 (some .int), Cond.fieldLink RX0 53 "ShelfMarks" "count" "I", Cond.fieldLink RX0 9 "ShelfMarks" "folders" "[I", Cond.methodLink RX0 49 yX0_removeAt, Cond.instanceMethod yX0_removeAt, Cond.selects RX0 yX0_removeAt yX0_removeAt, Cond.code yX0_removeAt cX0_removeAt 3 none, Cond.methodLink RX0 118 yX0_isPlace, Cond.instanceMethod yX0_isPlace, Cond.selects RX0 yX0_isPlace yX0_isPlace, Cond.code yX0_isPlace cX0_isPlace 2 (some .boolean), Cond.fieldLink RX0 13 "ShelfMarks" "marks" "[I"]
def wsX0_carry_r2 : List Cond := [Cond.methodLink RX0 43 yX0_folderAt, Cond.instanceMethod yX0_folderAt, Cond.selects RX0 yX0_folderAt yX0_folderAt, Cond.code yX0_folderAt cX0_folderAt 2 (some .int), Cond.methodLink RX0 67 yX0_markAt, Cond.instanceMethod yX0_markAt, Cond.selects RX0 yX0_markAt yX0_markAt, Cond.code yX0_markAt cX0_markAt 2 (some .int), Cond.methodLink RX0 122 yX0_set, Cond.instanceMethod yX0_set, Cond.selects RX0 yX0_set yX0_set, Cond.code yX0_set cX0_set 4 none, Cond.methodLink RX0 35 yX0_putIn, Cond.instanceMethod yX0_putIn, Cond.selects RX0 yX0_putIn yX0_putIn, Cond.code yX0_putIn cX0_putIn 3 none, Cond.fieldLink RX0 95 "ShelfMarks" "moves" "I", Cond.methodLink RX0 92 yX0_movesByPuttingIn, Cond.instanceMethod yX0_movesByPuttingIn, Cond.selects RX0 yX0_movesByPuttingIn yX0_movesByPuttingIn, Cond.code yX0_movesByPuttingIn cX0_movesByPuttingIn 9 (some .int), Cond.methodLink RX0 126 yX0_hasFreeMark, Cond.instanceMethod yX0_hasFreeMark, Cond.selects RX0 yX0_hasFreeMark yX0_hasFreeMark]
def wsX0_carry_r3 : List Cond := [Cond.code yX0_hasFreeMark cX0_hasFreeMark 2 (some .boolean), Cond.methodLink RX0 135 yX0_levelToSpread, Cond.instanceMethod yX0_levelToSpread, Cond.selects RX0 yX0_levelToSpread yX0_levelToSpread, Cond.code yX0_levelToSpread cX0_levelToSpread 4 (some .int), Cond.fieldLink RX0 16 "ShelfMarks" "LOADED_FROM" "[I", Cond.methodLink RX0 138 yX0_shelfToSpread, Cond.instanceMethod yX0_shelfToSpread, Cond.selects RX0 yX0_shelfToSpread yX0_shelfToSpread, Cond.code yX0_shelfToSpread cX0_shelfToSpread 3 (some .int), Cond.methodLink RX0 151 Lib.Math.max.name, Cond.static Lib.Math.max.name, Cond.initialized "java/lang/Math", Cond.code Lib.Math.max.name Lib.Math.max.code 2 (some .int), Cond.methodLink RX0 88 yX0_isLoaded, Cond.instanceMethod yX0_isLoaded, Cond.selects RX0 yX0_isLoaded yX0_isLoaded, Cond.code yX0_isLoaded cX0_isLoaded 3 (some .boolean), Cond.methodLink RX0 84 yX0_foldersOn, Cond.instanceMethod yX0_foldersOn, Cond.selects RX0 yX0_foldersOn yX0_foldersOn, Cond.code yX0_foldersOn cX0_foldersOn 3 (some .int), Cond.methodLink RX0 141 yX0_firstMark, Cond.static yX0_firstMark]
def wsX0_carry_r4 : List Cond := [Cond.code yX0_firstMark cX0_firstMark 2 (some .int), Cond.methodLink RX0 70 yX0_marksBelow, Cond.instanceMethod yX0_marksBelow, Cond.selects RX0 yX0_marksBelow yX0_marksBelow, Cond.code yX0_marksBelow cX0_marksBelow 3 (some .int), Cond.methodLink RX0 144 yX0_spreadMark, Cond.static yX0_spreadMark, Cond.code yX0_spreadMark cX0_spreadMark 5 (some .int), Cond.methodLink RX0 156 yX0_shelfSize, Cond.static yX0_shelfSize, Cond.code yX0_shelfSize cX0_shelfSize 1 (some .int), Cond.methodLink RX0 129 yX0_insertAt, Cond.instanceMethod yX0_insertAt, Cond.selects RX0 yX0_insertAt yX0_insertAt, Cond.code yX0_insertAt cX0_insertAt 5 none, Cond.methodLink RX0 132 yX0_spreadOut, Cond.instanceMethod yX0_spreadOut, Cond.selects RX0 yX0_spreadOut yX0_spreadOut, Cond.code yX0_spreadOut cX0_spreadOut 8 none, Cond.methodLink RX0 148 yX0_countSpread, Cond.instanceMethod yX0_countSpread, Cond.selects RX0 yX0_countSpread yX0_countSpread, Cond.code yX0_countSpread cX0_countSpread 2 none, Cond.fieldLink RX0 19 "ShelfMarks" "spreads" "[I"]
def wsX0_carry : List Cond := .code yX0_carry cX0_carry 4 (some .int) :: ((wsX0_carry_r1 ++ (wsX0_carry_r2 ++ (wsX0_carry_r3 ++ wsX0_carry_r4))) ++ wsX00 ++ (vx_atS RX0 61 "java/lang/IllegalArgumentException" ["java/lang/RuntimeException", "java/lang/Exception"]).filter goodWord ++ (vx_atS RX0 83 "java/lang/IndexOutOfBoundsException" ["java/lang/RuntimeException", "java/lang/Exception"]).filter goodWord)
def wsX0_size : List Cond := .code yX0_size cX0_size 1 (some .int) :: ([.fieldLink RX0 53 "ShelfMarks" "count" "I"] ++ wsX00)
def wsX0_first : List Cond := .code yX0_first cX0_first 1 (some .int) :: ([.methodLink RX0 43 yX0_folderAt, .instanceMethod yX0_folderAt, .selects RX0 yX0_folderAt yX0_folderAt, .initialized RX0, .code yX0_folderAt cX0_folderAt 2 (some .int), .fieldLink RX0 9 "ShelfMarks" "folders" "[I", .methodLink RX0 118 yX0_isPlace, .instanceMethod yX0_isPlace, .selects RX0 yX0_isPlace yX0_isPlace, .code yX0_isPlace cX0_isPlace 2 (some .boolean), .fieldLink RX0 53 "ShelfMarks" "count" "I", .fieldLink RX0 13 "ShelfMarks" "marks" "[I"] ++ wsX00)
def wsX0_next : List Cond := .code yX0_next cX0_next 2 (some .int) :: ([.methodLink RX0 39 yX0_requirePlace, .instanceMethod yX0_requirePlace, .selects RX0 yX0_requirePlace yX0_requirePlace, .initialized RX0, .code yX0_requirePlace cX0_requirePlace 3 (some .int), .classLink RX0 79 "java/lang/IndexOutOfBoundsException", .initialized "java/lang/IndexOutOfBoundsException", .methodLink RX0 64 yX0_placeOf, .instanceMethod yX0_placeOf, .selects RX0 yX0_placeOf yX0_placeOf, .code yX0_placeOf cX0_placeOf 3 (some .int), .fieldLink RX0 53 "ShelfMarks" "count" "I", .fieldLink RX0 9 "ShelfMarks" "folders" "[I", .methodLink RX0 43 yX0_folderAt, .instanceMethod yX0_folderAt, .selects RX0 yX0_folderAt yX0_folderAt, .code yX0_folderAt cX0_folderAt 2 (some .int), .methodLink RX0 118 yX0_isPlace, .instanceMethod yX0_isPlace, .selects RX0 yX0_isPlace yX0_isPlace, .code yX0_isPlace cX0_isPlace 2 (some .boolean), .fieldLink RX0 13 "ShelfMarks" "marks" "[I"] ++ wsX00 ++ (vx_atS RX0 83 "java/lang/IndexOutOfBoundsException" ["java/lang/RuntimeException", "java/lang/Exception"]).filter goodWord)
def wsX0_mark : List Cond := .code yX0_mark cX0_mark 2 (some .int) :: ([.methodLink RX0 39 yX0_requirePlace, .instanceMethod yX0_requirePlace, .selects RX0 yX0_requirePlace yX0_requirePlace, .initialized RX0, .code yX0_requirePlace cX0_requirePlace 3 (some .int), .classLink RX0 79 "java/lang/IndexOutOfBoundsException", .initialized "java/lang/IndexOutOfBoundsException", .methodLink RX0 64 yX0_placeOf, .instanceMethod yX0_placeOf, .selects RX0 yX0_placeOf yX0_placeOf, .code yX0_placeOf cX0_placeOf 3 (some .int), .fieldLink RX0 53 "ShelfMarks" "count" "I", .fieldLink RX0 9 "ShelfMarks" "folders" "[I", .methodLink RX0 67 yX0_markAt, .instanceMethod yX0_markAt, .selects RX0 yX0_markAt yX0_markAt, .code yX0_markAt cX0_markAt 2 (some .int), .fieldLink RX0 13 "ShelfMarks" "marks" "[I", .methodLink RX0 118 yX0_isPlace, .instanceMethod yX0_isPlace, .selects RX0 yX0_isPlace yX0_isPlace, .code yX0_isPlace cX0_isPlace 2 (some .boolean)] ++ wsX00 ++ (vx_atS RX0 83 "java/lang/IndexOutOfBoundsException" ["java/lang/RuntimeException", "java/lang/Exception"]).filter goodWord)
def wsX0_ahead_r1 : List Cond := [Cond.methodLink RX0 39 yX0_requirePlace, Cond.instanceMethod yX0_requirePlace, Cond.selects RX0 yX0_requirePlace yX0_requirePlace, Cond.initialized RX0, Cond.code yX0_requirePlace cX0_requirePlace 3 (some .int), Cond.classLink RX0 79 "java/lang/IndexOutOfBoundsException", Cond.initialized "java/lang/IndexOutOfBoundsException", Cond.methodLink RX0 64 yX0_placeOf, Cond.instanceMethod yX0_placeOf, Cond.selects RX0 yX0_placeOf yX0_placeOf, Cond.code yX0_placeOf cX0_placeOf 3 (some .int), Cond.fieldLink RX0 53 "ShelfMarks" "count" "I", Cond.fieldLink RX0 9 "ShelfMarks" "folders" "[I", Cond.methodLink RX0 67 yX0_markAt, Cond.instanceMethod yX0_markAt, Cond.selects RX0 yX0_markAt yX0_markAt, Cond.code yX0_markAt cX0_markAt 2 (some .int), Cond.fieldLink RX0 13 "ShelfMarks" "marks" "[I", Cond.methodLink RX0 118 yX0_isPlace, Cond.instanceMethod yX0_isPlace, Cond.selects RX0 yX0_isPlace yX0_isPlace, Cond.code yX0_isPlace cX0_isPlace 2 (some .boolean), Cond.methodLink RX0 70 yX0_marksBelow, Cond.instanceMethod yX0_marksBelow]
def wsX0_ahead_r2 : List Cond := [Cond.selects RX0 yX0_marksBelow yX0_marksBelow, Cond.code yX0_marksBelow cX0_marksBelow 3 (some .int)]
def wsX0_ahead : List Cond := .code yX0_ahead cX0_ahead 2 (some .int) :: ((wsX0_ahead_r1 ++ wsX0_ahead_r2) ++ wsX00 ++ (vx_atS RX0 83 "java/lang/IndexOutOfBoundsException" ["java/lang/RuntimeException", "java/lang/Exception"]).filter goodWord)
def wsX0_requireReader : List Cond := .code yX0_requireReader cX0_requireReader 1 none :: ([.classLink RX0 79 "java/lang/IndexOutOfBoundsException", .initialized "java/lang/IndexOutOfBoundsException"] ++ (vx_atS RX0 83 "java/lang/IndexOutOfBoundsException" ["java/lang/RuntimeException", "java/lang/Exception"]).filter goodWord)
def wsX0_readersAt : List Cond := .code yX0_readersAt cX0_readersAt 4 (some .int) :: ([.fieldLink RX0 22 "ShelfMarks" "readerFolders" "[I"] ++ wsX00)
def wsX0_seat : List Cond := .code yX0_seat cX0_seat 3 (some .int) :: ([.fieldLink RX0 22 "ShelfMarks" "readerFolders" "[I", .methodLink RX0 98 yX0_requireReader, .static yX0_requireReader, .initialized RX0, .code yX0_requireReader cX0_requireReader 1 none, .classLink RX0 79 "java/lang/IndexOutOfBoundsException", .initialized "java/lang/IndexOutOfBoundsException", .methodLink RX0 39 yX0_requirePlace, .instanceMethod yX0_requirePlace, .selects RX0 yX0_requirePlace yX0_requirePlace, .code yX0_requirePlace cX0_requirePlace 3 (some .int), .methodLink RX0 64 yX0_placeOf, .instanceMethod yX0_placeOf, .selects RX0 yX0_placeOf yX0_placeOf, .code yX0_placeOf cX0_placeOf 3 (some .int), .fieldLink RX0 53 "ShelfMarks" "count" "I", .fieldLink RX0 9 "ShelfMarks" "folders" "[I", .methodLink RX0 101 yX0_readersAt, .instanceMethod yX0_readersAt, .selects RX0 yX0_readersAt yX0_readersAt, .code yX0_readersAt cX0_readersAt 4 (some .int)] ++ wsX00 ++ (vx_atS RX0 83 "java/lang/IndexOutOfBoundsException" ["java/lang/RuntimeException", "java/lang/Exception"]).filter goodWord)
def wsX0_passDay : List Cond := .code yX0_passDay cX0_passDay 4 (some .int) :: ([.fieldLink RX0 22 "ShelfMarks" "readerFolders" "[I", .fieldLink RX0 25 "ShelfMarks" "readerCounts" "[I", .methodLink RX0 64 yX0_placeOf, .instanceMethod yX0_placeOf, .selects RX0 yX0_placeOf yX0_placeOf, .initialized RX0, .code yX0_placeOf cX0_placeOf 3 (some .int), .fieldLink RX0 53 "ShelfMarks" "count" "I", .fieldLink RX0 9 "ShelfMarks" "folders" "[I", .methodLink RX0 43 yX0_folderAt, .instanceMethod yX0_folderAt, .selects RX0 yX0_folderAt yX0_folderAt, .code yX0_folderAt cX0_folderAt 2 (some .int), .methodLink RX0 118 yX0_isPlace, .instanceMethod yX0_isPlace, .selects RX0 yX0_isPlace yX0_isPlace, .code yX0_isPlace cX0_isPlace 2 (some .boolean), .fieldLink RX0 13 "ShelfMarks" "marks" "[I"] ++ wsX00)
def wsX0_at : List Cond := .code yX0_at cX0_at 2 (some .int) :: ([.fieldLink RX0 22 "ShelfMarks" "readerFolders" "[I", .methodLink RX0 98 yX0_requireReader, .static yX0_requireReader, .initialized RX0, .code yX0_requireReader cX0_requireReader 1 none, .classLink RX0 79 "java/lang/IndexOutOfBoundsException", .initialized "java/lang/IndexOutOfBoundsException"] ++ wsX00 ++ (vx_atS RX0 83 "java/lang/IndexOutOfBoundsException" ["java/lang/RuntimeException", "java/lang/Exception"]).filter goodWord)
def wsX0_read : List Cond := .code yX0_read cX0_read 2 (some .int) :: ([.fieldLink RX0 25 "ShelfMarks" "readerCounts" "[I", .methodLink RX0 98 yX0_requireReader, .static yX0_requireReader, .initialized RX0, .code yX0_requireReader cX0_requireReader 1 none, .classLink RX0 79 "java/lang/IndexOutOfBoundsException", .initialized "java/lang/IndexOutOfBoundsException"] ++ wsX00 ++ (vx_atS RX0 83 "java/lang/IndexOutOfBoundsException" ["java/lang/RuntimeException", "java/lang/Exception"]).filter goodWord)
def wsJ9_max_7cf53 : List Cond := .code yJ9_max_7cf53 cJ9_max_7cf53 2 (some .int) :: ([])
def wsL_drawn : List Cond := .code yL_drawn cL_drawn 3 (some .int) :: ([.constant RL 7 (51001), .constant RL 8 (2147483647)])
def wsL_done_r1 : List Cond := [Cond.classLink RL 29 "java/lang/IllegalStateException", Cond.classLink RL 31 "java/lang/IndexOutOfBoundsException", Cond.classLink RL 33 "java/lang/IllegalArgumentException", Cond.methodLink RL 9 yX0_putFirst, Cond.instanceMethod yX0_putFirst, Cond.selects RX0 yX0_putFirst yX0_putFirst, Cond.initialized RX0, Cond.code yX0_putFirst cX0_putFirst 2 (some .int), Cond.methodLink RX0 28 yX0_requireThatOneMayCome, Cond.instanceMethod yX0_requireThatOneMayCome, Cond.selects RX0 yX0_requireThatOneMayCome yX0_requireThatOneMayCome, Cond.code yX0_requireThatOneMayCome cX0_requireThatOneMayCome 1 none, Cond.classLink RX0 109 "java/lang/IllegalStateException", Cond.initialized "java/lang/IllegalStateException", Cond.fieldLink RX0 106 "ShelfMarks" "came" "I", Cond.fieldLink RX0 53 "ShelfMarks" "count" "I", Cond.methodLink RX0 31 yX0_nextNumber, Cond.instanceMethod yX0_nextNumber, Cond.selects RX0 yX0_nextNumber yX0_nextNumber, Cond.code yX0_nextNumber cX0_nextNumber 2 (some .int), Cond.methodLink RX0 35 yX0_putIn, Cond.instanceMethod yX0_putIn, Cond.selects RX0 yX0_putIn yX0_putIn, Cond.code yX0_putIn cX0_putIn 3 none]
def wsL_done_r2 : List Cond := [Cond.fieldLink RX0 95 "ShelfMarks" "moves" "I", Cond.methodLink RX0 92 yX0_movesByPuttingIn, Cond.instanceMethod yX0_movesByPuttingIn, Cond.selects RX0 yX0_movesByPuttingIn yX0_movesByPuttingIn, Cond.code yX0_movesByPuttingIn cX0_movesByPuttingIn 9 (some .int), Cond.methodLink RX0 126 yX0_hasFreeMark, Cond.instanceMethod yX0_hasFreeMark, Cond.selects RX0 yX0_hasFreeMark yX0_hasFreeMark, Cond.code yX0_hasFreeMark cX0_hasFreeMark 2 (some .boolean), Cond.methodLink RX0 67 yX0_markAt, Cond.instanceMethod yX0_markAt, Cond.selects RX0 yX0_markAt yX0_markAt, Cond.code yX0_markAt cX0_markAt 2 (some .int), Cond.fieldLink RX0 13 "ShelfMarks" "marks" "[I", Cond.methodLink RX0 118 yX0_isPlace, Cond.instanceMethod yX0_isPlace, Cond.selects RX0 yX0_isPlace yX0_isPlace, Cond.code yX0_isPlace cX0_isPlace 2 (some .boolean), Cond.fieldLink RX0 9 "ShelfMarks" "folders" "[I", Cond.methodLink RX0 135 yX0_levelToSpread, Cond.instanceMethod yX0_levelToSpread, Cond.selects RX0 yX0_levelToSpread yX0_levelToSpread, Cond.code yX0_levelToSpread cX0_levelToSpread 4 (some .int), Cond.fieldLink RX0 16 "ShelfMarks" "LOADED_FROM" "[I"]
def wsL_done_r3 : List Cond := [Cond.methodLink RX0 138 yX0_shelfToSpread, Cond.instanceMethod yX0_shelfToSpread, Cond.selects RX0 yX0_shelfToSpread yX0_shelfToSpread, Cond.code yX0_shelfToSpread cX0_shelfToSpread 3 (some .int), Cond.methodLink RX0 151 Lib.Math.max.name, Cond.static Lib.Math.max.name, Cond.initialized "java/lang/Math", Cond.code Lib.Math.max.name Lib.Math.max.code 2 (some .int), Cond.methodLink RX0 88 yX0_isLoaded, Cond.instanceMethod yX0_isLoaded, Cond.selects RX0 yX0_isLoaded yX0_isLoaded, Cond.code yX0_isLoaded cX0_isLoaded 3 (some .boolean), Cond.methodLink RX0 84 yX0_foldersOn, Cond.instanceMethod yX0_foldersOn, Cond.selects RX0 yX0_foldersOn yX0_foldersOn, Cond.code yX0_foldersOn cX0_foldersOn 3 (some .int), Cond.methodLink RX0 141 yX0_firstMark, Cond.static yX0_firstMark, Cond.code yX0_firstMark cX0_firstMark 2 (some .int), Cond.methodLink RX0 70 yX0_marksBelow, Cond.instanceMethod yX0_marksBelow, Cond.selects RX0 yX0_marksBelow yX0_marksBelow, Cond.code yX0_marksBelow cX0_marksBelow 3 (some .int), Cond.methodLink RX0 144 yX0_spreadMark]
def wsL_done_r4 : List Cond := [Cond.static yX0_spreadMark, Cond.code yX0_spreadMark cX0_spreadMark 5 (some .int), Cond.methodLink RX0 156 yX0_shelfSize, Cond.static yX0_shelfSize, Cond.code yX0_shelfSize cX0_shelfSize 1 (some .int), Cond.methodLink RX0 129 yX0_insertAt, Cond.instanceMethod yX0_insertAt, Cond.selects RX0 yX0_insertAt yX0_insertAt, Cond.code yX0_insertAt cX0_insertAt 5 none, Cond.methodLink RX0 43 yX0_folderAt, Cond.instanceMethod yX0_folderAt, Cond.selects RX0 yX0_folderAt yX0_folderAt, Cond.code yX0_folderAt cX0_folderAt 2 (some .int), Cond.methodLink RX0 122 yX0_set, Cond.instanceMethod yX0_set, Cond.selects RX0 yX0_set yX0_set, Cond.code yX0_set cX0_set 4 none, Cond.methodLink RX0 132 yX0_spreadOut, Cond.instanceMethod yX0_spreadOut, Cond.selects RX0 yX0_spreadOut yX0_spreadOut, Cond.code yX0_spreadOut cX0_spreadOut 8 none, Cond.methodLink RX0 148 yX0_countSpread, Cond.instanceMethod yX0_countSpread, Cond.selects RX0 yX0_countSpread yX0_countSpread]
def wsL_done_r5 : List Cond := [Cond.code yX0_countSpread cX0_countSpread 2 none, Cond.fieldLink RX0 19 "ShelfMarks" "spreads" "[I", Cond.methodLink RL 15 yX0_putBehind, Cond.instanceMethod yX0_putBehind, Cond.selects RX0 yX0_putBehind yX0_putBehind, Cond.code yX0_putBehind cX0_putBehind 4 (some .int), Cond.methodLink RX0 39 yX0_requirePlace, Cond.instanceMethod yX0_requirePlace, Cond.selects RX0 yX0_requirePlace yX0_requirePlace, Cond.code yX0_requirePlace cX0_requirePlace 3 (some .int), Cond.classLink RX0 79 "java/lang/IndexOutOfBoundsException", Cond.initialized "java/lang/IndexOutOfBoundsException", Cond.methodLink RX0 64 yX0_placeOf, Cond.instanceMethod yX0_placeOf, Cond.selects RX0 yX0_placeOf yX0_placeOf, Cond.code yX0_placeOf cX0_placeOf 3 (some .int), Cond.methodLink RL 19 yX0_takeOut, Cond.instanceMethod yX0_takeOut, Cond.selects RX0 yX0_takeOut yX0_takeOut, Cond.code yX0_takeOut cX0_takeOut 3 (some .int), Cond.methodLink RX0 46 yX0_sendReadersOn, Cond.instanceMethod yX0_sendReadersOn, Cond.selects RX0 yX0_sendReadersOn yX0_sendReadersOn, Cond.code yX0_sendReadersOn cX0_sendReadersOn 4 none]
def wsL_done_r6 : List Cond := [Cond.fieldLink RX0 22 "ShelfMarks" "readerFolders" "[I", Cond.methodLink RX0 49 yX0_removeAt, Cond.instanceMethod yX0_removeAt, Cond.selects RX0 yX0_removeAt yX0_removeAt, Cond.code yX0_removeAt cX0_removeAt 3 none, Cond.methodLink RL 22 yX0_carry, Cond.instanceMethod yX0_carry, Cond.selects RX0 yX0_carry yX0_carry, Cond.code yX0_carry cX0_carry 4 (some .int), Cond.classLink RX0 57 "java/lang/IllegalArgumentException", Cond.initialized "java/lang/IllegalArgumentException", Cond.methodLink RL 26 yX0_seat, Cond.instanceMethod yX0_seat, Cond.selects RX0 yX0_seat yX0_seat, Cond.code yX0_seat cX0_seat 3 (some .int), Cond.methodLink RX0 98 yX0_requireReader, Cond.static yX0_requireReader, Cond.code yX0_requireReader cX0_requireReader 1 none, Cond.methodLink RX0 101 yX0_readersAt, Cond.instanceMethod yX0_readersAt, Cond.selects RX0 yX0_readersAt yX0_readersAt, Cond.code yX0_readersAt cX0_readersAt 4 (some .int)]
def wsL_done : List Cond := .codeWith yL_done cL_done 5 (some .int) [(0, 57, 58, 29), (0, 57, 63, 31), (0, 57, 68, 33)] :: ((wsL_done_r1 ++ (wsL_done_r2 ++ (wsL_done_r3 ++ (wsL_done_r4 ++ (wsL_done_r5 ++ wsL_done_r6))))) ++ wsX00 ++ (vx_atS RX0 113 "java/lang/IllegalStateException" ["java/lang/RuntimeException", "java/lang/Exception"]).filter goodWord ++ (vx_atS RX0 83 "java/lang/IndexOutOfBoundsException" ["java/lang/RuntimeException", "java/lang/Exception"]).filter goodWord ++ (vx_atS RX0 61 "java/lang/IllegalArgumentException" ["java/lang/RuntimeException", "java/lang/Exception"]).filter goodWord)
def wsL_asked_r1 : List Cond := [Cond.classLink RL 31 "java/lang/IndexOutOfBoundsException", Cond.methodLink RL 35 yX0_next, Cond.instanceMethod yX0_next, Cond.selects RX0 yX0_next yX0_next, Cond.initialized RX0, Cond.code yX0_next cX0_next 2 (some .int), Cond.methodLink RX0 39 yX0_requirePlace, Cond.instanceMethod yX0_requirePlace, Cond.selects RX0 yX0_requirePlace yX0_requirePlace, Cond.code yX0_requirePlace cX0_requirePlace 3 (some .int), Cond.classLink RX0 79 "java/lang/IndexOutOfBoundsException", Cond.initialized "java/lang/IndexOutOfBoundsException", Cond.methodLink RX0 64 yX0_placeOf, Cond.instanceMethod yX0_placeOf, Cond.selects RX0 yX0_placeOf yX0_placeOf, Cond.code yX0_placeOf cX0_placeOf 3 (some .int), Cond.fieldLink RX0 53 "ShelfMarks" "count" "I", Cond.fieldLink RX0 9 "ShelfMarks" "folders" "[I", Cond.methodLink RX0 43 yX0_folderAt, Cond.instanceMethod yX0_folderAt, Cond.selects RX0 yX0_folderAt yX0_folderAt, Cond.code yX0_folderAt cX0_folderAt 2 (some .int), Cond.methodLink RX0 118 yX0_isPlace, Cond.instanceMethod yX0_isPlace]
def wsL_asked_r2 : List Cond := [Cond.selects RX0 yX0_isPlace yX0_isPlace, Cond.code yX0_isPlace cX0_isPlace 2 (some .boolean), Cond.fieldLink RX0 13 "ShelfMarks" "marks" "[I", Cond.methodLink RL 38 yX0_mark, Cond.instanceMethod yX0_mark, Cond.selects RX0 yX0_mark yX0_mark, Cond.code yX0_mark cX0_mark 2 (some .int), Cond.methodLink RX0 67 yX0_markAt, Cond.instanceMethod yX0_markAt, Cond.selects RX0 yX0_markAt yX0_markAt, Cond.code yX0_markAt cX0_markAt 2 (some .int), Cond.methodLink RL 41 yX0_ahead, Cond.instanceMethod yX0_ahead, Cond.selects RX0 yX0_ahead yX0_ahead, Cond.code yX0_ahead cX0_ahead 2 (some .int), Cond.methodLink RX0 70 yX0_marksBelow, Cond.instanceMethod yX0_marksBelow, Cond.selects RX0 yX0_marksBelow yX0_marksBelow, Cond.code yX0_marksBelow cX0_marksBelow 3 (some .int), Cond.methodLink RL 44 yX0_at, Cond.instanceMethod yX0_at, Cond.selects RX0 yX0_at yX0_at, Cond.code yX0_at cX0_at 2 (some .int), Cond.fieldLink RX0 22 "ShelfMarks" "readerFolders" "[I"]
def wsL_asked_r3 : List Cond := [Cond.methodLink RX0 98 yX0_requireReader, Cond.static yX0_requireReader, Cond.code yX0_requireReader cX0_requireReader 1 none, Cond.methodLink RL 47 yX0_read, Cond.instanceMethod yX0_read, Cond.selects RX0 yX0_read yX0_read, Cond.code yX0_read cX0_read 2 (some .int), Cond.fieldLink RX0 25 "ShelfMarks" "readerCounts" "[I"]
def wsL_asked : List Cond := .codeWith yL_asked cL_asked 4 (some .int) [(0, 56, 57, 31)] :: ((wsL_asked_r1 ++ (wsL_asked_r2 ++ wsL_asked_r3)) ++ wsX00 ++ (vx_atS RX0 83 "java/lang/IndexOutOfBoundsException" ["java/lang/RuntimeException", "java/lang/Exception"]).filter goodWord)
def wsL_folderAt_r1 : List Cond := [Cond.methodLink RL 50 yX0_first, Cond.instanceMethod yX0_first, Cond.selects RX0 yX0_first yX0_first, Cond.initialized RX0, Cond.code yX0_first cX0_first 1 (some .int), Cond.methodLink RX0 43 yX0_folderAt, Cond.instanceMethod yX0_folderAt, Cond.selects RX0 yX0_folderAt yX0_folderAt, Cond.code yX0_folderAt cX0_folderAt 2 (some .int), Cond.fieldLink RX0 9 "ShelfMarks" "folders" "[I", Cond.methodLink RX0 118 yX0_isPlace, Cond.instanceMethod yX0_isPlace, Cond.selects RX0 yX0_isPlace yX0_isPlace, Cond.code yX0_isPlace cX0_isPlace 2 (some .boolean), Cond.fieldLink RX0 53 "ShelfMarks" "count" "I", Cond.fieldLink RX0 13 "ShelfMarks" "marks" "[I", Cond.methodLink RL 53 yL_asked, Cond.static yL_asked, Cond.initialized RL, Cond.codeWith yL_asked cL_asked 4 (some .int) [(0, 56, 57, 31)], Cond.classLink RL 31 "java/lang/IndexOutOfBoundsException", Cond.methodLink RL 35 yX0_next, Cond.instanceMethod yX0_next, Cond.selects RX0 yX0_next yX0_next]
def wsL_folderAt_r2 : List Cond := [Cond.code yX0_next cX0_next 2 (some .int), Cond.methodLink RX0 39 yX0_requirePlace, Cond.instanceMethod yX0_requirePlace, Cond.selects RX0 yX0_requirePlace yX0_requirePlace, Cond.code yX0_requirePlace cX0_requirePlace 3 (some .int), Cond.classLink RX0 79 "java/lang/IndexOutOfBoundsException", Cond.initialized "java/lang/IndexOutOfBoundsException", Cond.methodLink RX0 64 yX0_placeOf, Cond.instanceMethod yX0_placeOf, Cond.selects RX0 yX0_placeOf yX0_placeOf, Cond.code yX0_placeOf cX0_placeOf 3 (some .int), Cond.methodLink RL 38 yX0_mark, Cond.instanceMethod yX0_mark, Cond.selects RX0 yX0_mark yX0_mark, Cond.code yX0_mark cX0_mark 2 (some .int), Cond.methodLink RX0 67 yX0_markAt, Cond.instanceMethod yX0_markAt, Cond.selects RX0 yX0_markAt yX0_markAt, Cond.code yX0_markAt cX0_markAt 2 (some .int), Cond.methodLink RL 41 yX0_ahead, Cond.instanceMethod yX0_ahead, Cond.selects RX0 yX0_ahead yX0_ahead, Cond.code yX0_ahead cX0_ahead 2 (some .int), Cond.methodLink RX0 70 yX0_marksBelow]
def wsL_folderAt_r3 : List Cond := [Cond.instanceMethod yX0_marksBelow, Cond.selects RX0 yX0_marksBelow yX0_marksBelow, Cond.code yX0_marksBelow cX0_marksBelow 3 (some .int), Cond.methodLink RL 44 yX0_at, Cond.instanceMethod yX0_at, Cond.selects RX0 yX0_at yX0_at, Cond.code yX0_at cX0_at 2 (some .int), Cond.fieldLink RX0 22 "ShelfMarks" "readerFolders" "[I", Cond.methodLink RX0 98 yX0_requireReader, Cond.static yX0_requireReader, Cond.code yX0_requireReader cX0_requireReader 1 none, Cond.methodLink RL 47 yX0_read, Cond.instanceMethod yX0_read, Cond.selects RX0 yX0_read yX0_read, Cond.code yX0_read cX0_read 2 (some .int), Cond.fieldLink RX0 25 "ShelfMarks" "readerCounts" "[I"]
def wsL_folderAt : List Cond := .code yL_folderAt cL_folderAt 4 (some .int) :: ((wsL_folderAt_r1 ++ (wsL_folderAt_r2 ++ wsL_folderAt_r3)) ++ wsX00 ++ (vx_atS RX0 83 "java/lang/IndexOutOfBoundsException" ["java/lang/RuntimeException", "java/lang/Exception"]).filter goodWord)
def wsL_passing_r1 : List Cond := [Cond.arrayClass .int, Cond.methodLink RL 59 yX0_size, Cond.instanceMethod yX0_size, Cond.selects RX0 yX0_size yX0_size, Cond.initialized RX0, Cond.code yX0_size cX0_size 1 (some .int), Cond.fieldLink RX0 53 "ShelfMarks" "count" "I", Cond.methodLink RL 62 yL_done, Cond.static yL_done, Cond.initialized RL, Cond.codeWith yL_done cL_done 5 (some .int) [(0, 57, 58, 29), (0, 57, 63, 31), (0, 57, 68, 33)], Cond.classLink RL 29 "java/lang/IllegalStateException", Cond.classLink RL 31 "java/lang/IndexOutOfBoundsException", Cond.classLink RL 33 "java/lang/IllegalArgumentException", Cond.methodLink RL 9 yX0_putFirst, Cond.instanceMethod yX0_putFirst, Cond.selects RX0 yX0_putFirst yX0_putFirst, Cond.code yX0_putFirst cX0_putFirst 2 (some .int), Cond.methodLink RX0 28 yX0_requireThatOneMayCome, Cond.instanceMethod yX0_requireThatOneMayCome, Cond.selects RX0 yX0_requireThatOneMayCome yX0_requireThatOneMayCome, Cond.code yX0_requireThatOneMayCome cX0_requireThatOneMayCome 1 none, Cond.classLink RX0 109 "java/lang/IllegalStateException", Cond.initialized "java/lang/IllegalStateException"]
def wsL_passing_r2 : List Cond := [Cond.fieldLink RX0 106 "ShelfMarks" "came" "I", Cond.methodLink RX0 31 yX0_nextNumber, Cond.instanceMethod yX0_nextNumber, Cond.selects RX0 yX0_nextNumber yX0_nextNumber, Cond.code yX0_nextNumber cX0_nextNumber 2 (some .int), Cond.methodLink RX0 35 yX0_putIn, Cond.instanceMethod yX0_putIn, Cond.selects RX0 yX0_putIn yX0_putIn, Cond.code yX0_putIn cX0_putIn 3 none, Cond.fieldLink RX0 95 "ShelfMarks" "moves" "I", Cond.methodLink RX0 92 yX0_movesByPuttingIn, Cond.instanceMethod yX0_movesByPuttingIn, Cond.selects RX0 yX0_movesByPuttingIn yX0_movesByPuttingIn, Cond.code yX0_movesByPuttingIn cX0_movesByPuttingIn 9 (some .int), Cond.methodLink RX0 126 yX0_hasFreeMark, Cond.instanceMethod yX0_hasFreeMark, Cond.selects RX0 yX0_hasFreeMark yX0_hasFreeMark, Cond.code yX0_hasFreeMark cX0_hasFreeMark 2 (some .boolean), Cond.methodLink RX0 67 yX0_markAt, Cond.instanceMethod yX0_markAt, Cond.selects RX0 yX0_markAt yX0_markAt, Cond.code yX0_markAt cX0_markAt 2 (some .int), Cond.fieldLink RX0 13 "ShelfMarks" "marks" "[I", Cond.methodLink RX0 118 yX0_isPlace]
def wsL_passing_r3 : List Cond := [Cond.instanceMethod yX0_isPlace, Cond.selects RX0 yX0_isPlace yX0_isPlace, Cond.code yX0_isPlace cX0_isPlace 2 (some .boolean), Cond.fieldLink RX0 9 "ShelfMarks" "folders" "[I", Cond.methodLink RX0 135 yX0_levelToSpread, Cond.instanceMethod yX0_levelToSpread, Cond.selects RX0 yX0_levelToSpread yX0_levelToSpread, Cond.code yX0_levelToSpread cX0_levelToSpread 4 (some .int), Cond.fieldLink RX0 16 "ShelfMarks" "LOADED_FROM" "[I", Cond.methodLink RX0 138 yX0_shelfToSpread, Cond.instanceMethod yX0_shelfToSpread, Cond.selects RX0 yX0_shelfToSpread yX0_shelfToSpread, Cond.code yX0_shelfToSpread cX0_shelfToSpread 3 (some .int), Cond.methodLink RX0 151 Lib.Math.max.name, Cond.static Lib.Math.max.name, Cond.initialized "java/lang/Math", Cond.code Lib.Math.max.name Lib.Math.max.code 2 (some .int), Cond.methodLink RX0 88 yX0_isLoaded, Cond.instanceMethod yX0_isLoaded, Cond.selects RX0 yX0_isLoaded yX0_isLoaded, Cond.code yX0_isLoaded cX0_isLoaded 3 (some .boolean), Cond.methodLink RX0 84 yX0_foldersOn, Cond.instanceMethod yX0_foldersOn, Cond.selects RX0 yX0_foldersOn yX0_foldersOn]
def wsL_passing_r4 : List Cond := [Cond.code yX0_foldersOn cX0_foldersOn 3 (some .int), Cond.methodLink RX0 141 yX0_firstMark, Cond.static yX0_firstMark, Cond.code yX0_firstMark cX0_firstMark 2 (some .int), Cond.methodLink RX0 70 yX0_marksBelow, Cond.instanceMethod yX0_marksBelow, Cond.selects RX0 yX0_marksBelow yX0_marksBelow, Cond.code yX0_marksBelow cX0_marksBelow 3 (some .int), Cond.methodLink RX0 144 yX0_spreadMark, Cond.static yX0_spreadMark, Cond.code yX0_spreadMark cX0_spreadMark 5 (some .int), Cond.methodLink RX0 156 yX0_shelfSize, Cond.static yX0_shelfSize, Cond.code yX0_shelfSize cX0_shelfSize 1 (some .int), Cond.methodLink RX0 129 yX0_insertAt, Cond.instanceMethod yX0_insertAt, Cond.selects RX0 yX0_insertAt yX0_insertAt, Cond.code yX0_insertAt cX0_insertAt 5 none, Cond.methodLink RX0 43 yX0_folderAt, Cond.instanceMethod yX0_folderAt, Cond.selects RX0 yX0_folderAt yX0_folderAt, Cond.code yX0_folderAt cX0_folderAt 2 (some .int), Cond.methodLink RX0 122 yX0_set, Cond.instanceMethod yX0_set]
def wsL_passing_r5 : List Cond := [Cond.selects RX0 yX0_set yX0_set, Cond.code yX0_set cX0_set 4 none, Cond.methodLink RX0 132 yX0_spreadOut, Cond.instanceMethod yX0_spreadOut, Cond.selects RX0 yX0_spreadOut yX0_spreadOut, Cond.code yX0_spreadOut cX0_spreadOut 8 none, Cond.methodLink RX0 148 yX0_countSpread, Cond.instanceMethod yX0_countSpread, Cond.selects RX0 yX0_countSpread yX0_countSpread, Cond.code yX0_countSpread cX0_countSpread 2 none, Cond.fieldLink RX0 19 "ShelfMarks" "spreads" "[I", Cond.methodLink RL 15 yX0_putBehind, Cond.instanceMethod yX0_putBehind, Cond.selects RX0 yX0_putBehind yX0_putBehind, Cond.code yX0_putBehind cX0_putBehind 4 (some .int), Cond.methodLink RX0 39 yX0_requirePlace, Cond.instanceMethod yX0_requirePlace, Cond.selects RX0 yX0_requirePlace yX0_requirePlace, Cond.code yX0_requirePlace cX0_requirePlace 3 (some .int), Cond.classLink RX0 79 "java/lang/IndexOutOfBoundsException", Cond.initialized "java/lang/IndexOutOfBoundsException", Cond.methodLink RX0 64 yX0_placeOf, Cond.instanceMethod yX0_placeOf, Cond.selects RX0 yX0_placeOf yX0_placeOf]
def wsL_passing_r6 : List Cond := [Cond.code yX0_placeOf cX0_placeOf 3 (some .int), Cond.methodLink RL 19 yX0_takeOut, Cond.instanceMethod yX0_takeOut, Cond.selects RX0 yX0_takeOut yX0_takeOut, Cond.code yX0_takeOut cX0_takeOut 3 (some .int), Cond.methodLink RX0 46 yX0_sendReadersOn, Cond.instanceMethod yX0_sendReadersOn, Cond.selects RX0 yX0_sendReadersOn yX0_sendReadersOn, Cond.code yX0_sendReadersOn cX0_sendReadersOn 4 none, Cond.fieldLink RX0 22 "ShelfMarks" "readerFolders" "[I", Cond.methodLink RX0 49 yX0_removeAt, Cond.instanceMethod yX0_removeAt, Cond.selects RX0 yX0_removeAt yX0_removeAt, Cond.code yX0_removeAt cX0_removeAt 3 none, Cond.methodLink RL 22 yX0_carry, Cond.instanceMethod yX0_carry, Cond.selects RX0 yX0_carry yX0_carry, Cond.code yX0_carry cX0_carry 4 (some .int), Cond.classLink RX0 57 "java/lang/IllegalArgumentException", Cond.initialized "java/lang/IllegalArgumentException", Cond.methodLink RL 26 yX0_seat, Cond.instanceMethod yX0_seat, Cond.selects RX0 yX0_seat yX0_seat, Cond.code yX0_seat cX0_seat 3 (some .int)]
def wsL_passing_r7 : List Cond := [Cond.methodLink RX0 98 yX0_requireReader, Cond.static yX0_requireReader, Cond.code yX0_requireReader cX0_requireReader 1 none, Cond.methodLink RX0 101 yX0_readersAt, Cond.instanceMethod yX0_readersAt, Cond.selects RX0 yX0_readersAt yX0_readersAt, Cond.code yX0_readersAt cX0_readersAt 4 (some .int), Cond.methodLink RL 66 yL_folderAt, Cond.static yL_folderAt, Cond.code yL_folderAt cL_folderAt 4 (some .int), Cond.methodLink RL 50 yX0_first, Cond.instanceMethod yX0_first, Cond.selects RX0 yX0_first yX0_first, Cond.code yX0_first cX0_first 1 (some .int), Cond.methodLink RL 53 yL_asked, Cond.static yL_asked, Cond.codeWith yL_asked cL_asked 4 (some .int) [(0, 56, 57, 31)], Cond.methodLink RL 35 yX0_next, Cond.instanceMethod yX0_next, Cond.selects RX0 yX0_next yX0_next, Cond.code yX0_next cX0_next 2 (some .int), Cond.methodLink RL 38 yX0_mark, Cond.instanceMethod yX0_mark, Cond.selects RX0 yX0_mark yX0_mark]
def wsL_passing_r8 : List Cond := [Cond.code yX0_mark cX0_mark 2 (some .int), Cond.methodLink RL 41 yX0_ahead, Cond.instanceMethod yX0_ahead, Cond.selects RX0 yX0_ahead yX0_ahead, Cond.code yX0_ahead cX0_ahead 2 (some .int), Cond.methodLink RL 44 yX0_at, Cond.instanceMethod yX0_at, Cond.selects RX0 yX0_at yX0_at, Cond.code yX0_at cX0_at 2 (some .int), Cond.methodLink RL 47 yX0_read, Cond.instanceMethod yX0_read, Cond.selects RX0 yX0_read yX0_read, Cond.code yX0_read cX0_read 2 (some .int), Cond.fieldLink RX0 25 "ShelfMarks" "readerCounts" "[I"]
def wsL_passing : List Cond := .code yL_passing cL_passing 7 (some .boolean) :: ((wsL_passing_r1 ++ (wsL_passing_r2 ++ (wsL_passing_r3 ++ (wsL_passing_r4 ++ (wsL_passing_r5 ++ (wsL_passing_r6 ++ (wsL_passing_r7 ++ wsL_passing_r8))))))) ++ wsX00 ++ (vx_atS RX0 113 "java/lang/IllegalStateException" ["java/lang/RuntimeException", "java/lang/Exception"]).filter goodWord ++ (vx_atS RX0 83 "java/lang/IndexOutOfBoundsException" ["java/lang/RuntimeException", "java/lang/Exception"]).filter goodWord ++ (vx_atS RX0 61 "java/lang/IllegalArgumentException" ["java/lang/RuntimeException", "java/lang/Exception"]).filter goodWord)
def wsL_areAlike_r1 : List Cond := [Cond.methodLink RL 50 yX0_first, Cond.instanceMethod yX0_first, Cond.selects RX0 yX0_first yX0_first, Cond.initialized RX0, Cond.code yX0_first cX0_first 1 (some .int), Cond.methodLink RX0 43 yX0_folderAt, Cond.instanceMethod yX0_folderAt, Cond.selects RX0 yX0_folderAt yX0_folderAt, Cond.code yX0_folderAt cX0_folderAt 2 (some .int), Cond.fieldLink RX0 9 "ShelfMarks" "folders" "[I", Cond.methodLink RX0 118 yX0_isPlace, Cond.instanceMethod yX0_isPlace, Cond.selects RX0 yX0_isPlace yX0_isPlace, Cond.code yX0_isPlace cX0_isPlace 2 (some .boolean), Cond.fieldLink RX0 53 "ShelfMarks" "count" "I", Cond.fieldLink RX0 13 "ShelfMarks" "marks" "[I", Cond.methodLink RL 59 yX0_size, Cond.instanceMethod yX0_size, Cond.selects RX0 yX0_size yX0_size, Cond.code yX0_size cX0_size 1 (some .int), Cond.methodLink RL 53 yL_asked, Cond.static yL_asked, Cond.initialized RL, Cond.codeWith yL_asked cL_asked 4 (some .int) [(0, 56, 57, 31)]]
def wsL_areAlike_r2 : List Cond := [Cond.classLink RL 31 "java/lang/IndexOutOfBoundsException", Cond.methodLink RL 35 yX0_next, Cond.instanceMethod yX0_next, Cond.selects RX0 yX0_next yX0_next, Cond.code yX0_next cX0_next 2 (some .int), Cond.methodLink RX0 39 yX0_requirePlace, Cond.instanceMethod yX0_requirePlace, Cond.selects RX0 yX0_requirePlace yX0_requirePlace, Cond.code yX0_requirePlace cX0_requirePlace 3 (some .int), Cond.classLink RX0 79 "java/lang/IndexOutOfBoundsException", Cond.initialized "java/lang/IndexOutOfBoundsException", Cond.methodLink RX0 64 yX0_placeOf, Cond.instanceMethod yX0_placeOf, Cond.selects RX0 yX0_placeOf yX0_placeOf, Cond.code yX0_placeOf cX0_placeOf 3 (some .int), Cond.methodLink RL 38 yX0_mark, Cond.instanceMethod yX0_mark, Cond.selects RX0 yX0_mark yX0_mark, Cond.code yX0_mark cX0_mark 2 (some .int), Cond.methodLink RX0 67 yX0_markAt, Cond.instanceMethod yX0_markAt, Cond.selects RX0 yX0_markAt yX0_markAt, Cond.code yX0_markAt cX0_markAt 2 (some .int), Cond.methodLink RL 41 yX0_ahead]
def wsL_areAlike_r3 : List Cond := [Cond.instanceMethod yX0_ahead, Cond.selects RX0 yX0_ahead yX0_ahead, Cond.code yX0_ahead cX0_ahead 2 (some .int), Cond.methodLink RX0 70 yX0_marksBelow, Cond.instanceMethod yX0_marksBelow, Cond.selects RX0 yX0_marksBelow yX0_marksBelow, Cond.code yX0_marksBelow cX0_marksBelow 3 (some .int), Cond.methodLink RL 44 yX0_at, Cond.instanceMethod yX0_at, Cond.selects RX0 yX0_at yX0_at, Cond.code yX0_at cX0_at 2 (some .int), Cond.fieldLink RX0 22 "ShelfMarks" "readerFolders" "[I", Cond.methodLink RX0 98 yX0_requireReader, Cond.static yX0_requireReader, Cond.code yX0_requireReader cX0_requireReader 1 none, Cond.methodLink RL 47 yX0_read, Cond.instanceMethod yX0_read, Cond.selects RX0 yX0_read yX0_read, Cond.code yX0_read cX0_read 2 (some .int), Cond.fieldLink RX0 25 "ShelfMarks" "readerCounts" "[I"]
def wsL_areAlike : List Cond := .code yL_areAlike cL_areAlike 10 (some .boolean) :: ((wsL_areAlike_r1 ++ (wsL_areAlike_r2 ++ wsL_areAlike_r3)) ++ wsX00 ++ (vx_atS RX0 83 "java/lang/IndexOutOfBoundsException" ["java/lang/RuntimeException", "java/lang/Exception"]).filter goodWord)
def wsL_step_r1 : List Cond := [Cond.methodLink RL 59 yX0_size, Cond.instanceMethod yX0_size, Cond.selects RX0 yX0_size yX0_size, Cond.initialized RX0, Cond.code yX0_size cX0_size 1 (some .int), Cond.fieldLink RX0 53 "ShelfMarks" "count" "I", Cond.methodLink RL 66 yL_folderAt, Cond.static yL_folderAt, Cond.initialized RL, Cond.code yL_folderAt cL_folderAt 4 (some .int), Cond.methodLink RL 50 yX0_first, Cond.instanceMethod yX0_first, Cond.selects RX0 yX0_first yX0_first, Cond.code yX0_first cX0_first 1 (some .int), Cond.methodLink RX0 43 yX0_folderAt, Cond.instanceMethod yX0_folderAt, Cond.selects RX0 yX0_folderAt yX0_folderAt, Cond.code yX0_folderAt cX0_folderAt 2 (some .int), Cond.fieldLink RX0 9 "ShelfMarks" "folders" "[I", Cond.methodLink RX0 118 yX0_isPlace, Cond.instanceMethod yX0_isPlace, Cond.selects RX0 yX0_isPlace yX0_isPlace, Cond.code yX0_isPlace cX0_isPlace 2 (some .boolean), Cond.fieldLink RX0 13 "ShelfMarks" "marks" "[I"]
def wsL_step_r2 : List Cond := [Cond.methodLink RL 53 yL_asked, Cond.static yL_asked, Cond.codeWith yL_asked cL_asked 4 (some .int) [(0, 56, 57, 31)], Cond.classLink RL 31 "java/lang/IndexOutOfBoundsException", Cond.methodLink RL 35 yX0_next, Cond.instanceMethod yX0_next, Cond.selects RX0 yX0_next yX0_next, Cond.code yX0_next cX0_next 2 (some .int), Cond.methodLink RX0 39 yX0_requirePlace, Cond.instanceMethod yX0_requirePlace, Cond.selects RX0 yX0_requirePlace yX0_requirePlace, Cond.code yX0_requirePlace cX0_requirePlace 3 (some .int), Cond.classLink RX0 79 "java/lang/IndexOutOfBoundsException", Cond.initialized "java/lang/IndexOutOfBoundsException", Cond.methodLink RX0 64 yX0_placeOf, Cond.instanceMethod yX0_placeOf, Cond.selects RX0 yX0_placeOf yX0_placeOf, Cond.code yX0_placeOf cX0_placeOf 3 (some .int), Cond.methodLink RL 38 yX0_mark, Cond.instanceMethod yX0_mark, Cond.selects RX0 yX0_mark yX0_mark, Cond.code yX0_mark cX0_mark 2 (some .int), Cond.methodLink RX0 67 yX0_markAt, Cond.instanceMethod yX0_markAt]
def wsL_step_r3 : List Cond := [Cond.selects RX0 yX0_markAt yX0_markAt, Cond.code yX0_markAt cX0_markAt 2 (some .int), Cond.methodLink RL 41 yX0_ahead, Cond.instanceMethod yX0_ahead, Cond.selects RX0 yX0_ahead yX0_ahead, Cond.code yX0_ahead cX0_ahead 2 (some .int), Cond.methodLink RX0 70 yX0_marksBelow, Cond.instanceMethod yX0_marksBelow, Cond.selects RX0 yX0_marksBelow yX0_marksBelow, Cond.code yX0_marksBelow cX0_marksBelow 3 (some .int), Cond.methodLink RL 44 yX0_at, Cond.instanceMethod yX0_at, Cond.selects RX0 yX0_at yX0_at, Cond.code yX0_at cX0_at 2 (some .int), Cond.fieldLink RX0 22 "ShelfMarks" "readerFolders" "[I", Cond.methodLink RX0 98 yX0_requireReader, Cond.static yX0_requireReader, Cond.code yX0_requireReader cX0_requireReader 1 none, Cond.methodLink RL 47 yX0_read, Cond.instanceMethod yX0_read, Cond.selects RX0 yX0_read yX0_read, Cond.code yX0_read cX0_read 2 (some .int), Cond.fieldLink RX0 25 "ShelfMarks" "readerCounts" "[I", Cond.methodLink RL 62 yL_done]
def wsL_step_r4 : List Cond := [Cond.static yL_done, Cond.codeWith yL_done cL_done 5 (some .int) [(0, 57, 58, 29), (0, 57, 63, 31), (0, 57, 68, 33)], Cond.classLink RL 29 "java/lang/IllegalStateException", Cond.classLink RL 33 "java/lang/IllegalArgumentException", Cond.methodLink RL 9 yX0_putFirst, Cond.instanceMethod yX0_putFirst, Cond.selects RX0 yX0_putFirst yX0_putFirst, Cond.code yX0_putFirst cX0_putFirst 2 (some .int), Cond.methodLink RX0 28 yX0_requireThatOneMayCome, Cond.instanceMethod yX0_requireThatOneMayCome, Cond.selects RX0 yX0_requireThatOneMayCome yX0_requireThatOneMayCome, Cond.code yX0_requireThatOneMayCome cX0_requireThatOneMayCome 1 none, Cond.classLink RX0 109 "java/lang/IllegalStateException", Cond.initialized "java/lang/IllegalStateException", Cond.fieldLink RX0 106 "ShelfMarks" "came" "I", Cond.methodLink RX0 31 yX0_nextNumber, Cond.instanceMethod yX0_nextNumber, Cond.selects RX0 yX0_nextNumber yX0_nextNumber, Cond.code yX0_nextNumber cX0_nextNumber 2 (some .int), Cond.methodLink RX0 35 yX0_putIn, Cond.instanceMethod yX0_putIn, Cond.selects RX0 yX0_putIn yX0_putIn, Cond.code yX0_putIn cX0_putIn 3 none, Cond.fieldLink RX0 95 "ShelfMarks" "moves" "I"]
def wsL_step_r5 : List Cond := [Cond.methodLink RX0 92 yX0_movesByPuttingIn, Cond.instanceMethod yX0_movesByPuttingIn, Cond.selects RX0 yX0_movesByPuttingIn yX0_movesByPuttingIn, Cond.code yX0_movesByPuttingIn cX0_movesByPuttingIn 9 (some .int), Cond.methodLink RX0 126 yX0_hasFreeMark, Cond.instanceMethod yX0_hasFreeMark, Cond.selects RX0 yX0_hasFreeMark yX0_hasFreeMark, Cond.code yX0_hasFreeMark cX0_hasFreeMark 2 (some .boolean), Cond.methodLink RX0 135 yX0_levelToSpread, Cond.instanceMethod yX0_levelToSpread, Cond.selects RX0 yX0_levelToSpread yX0_levelToSpread, Cond.code yX0_levelToSpread cX0_levelToSpread 4 (some .int), Cond.fieldLink RX0 16 "ShelfMarks" "LOADED_FROM" "[I", Cond.methodLink RX0 138 yX0_shelfToSpread, Cond.instanceMethod yX0_shelfToSpread, Cond.selects RX0 yX0_shelfToSpread yX0_shelfToSpread, Cond.code yX0_shelfToSpread cX0_shelfToSpread 3 (some .int), Cond.methodLink RX0 151 Lib.Math.max.name, Cond.static Lib.Math.max.name, Cond.initialized "java/lang/Math", Cond.code Lib.Math.max.name Lib.Math.max.code 2 (some .int), Cond.methodLink RX0 88 yX0_isLoaded, Cond.instanceMethod yX0_isLoaded, Cond.selects RX0 yX0_isLoaded yX0_isLoaded]
def wsL_step_r6 : List Cond := [Cond.code yX0_isLoaded cX0_isLoaded 3 (some .boolean), Cond.methodLink RX0 84 yX0_foldersOn, Cond.instanceMethod yX0_foldersOn, Cond.selects RX0 yX0_foldersOn yX0_foldersOn, Cond.code yX0_foldersOn cX0_foldersOn 3 (some .int), Cond.methodLink RX0 141 yX0_firstMark, Cond.static yX0_firstMark, Cond.code yX0_firstMark cX0_firstMark 2 (some .int), Cond.methodLink RX0 144 yX0_spreadMark, Cond.static yX0_spreadMark, Cond.code yX0_spreadMark cX0_spreadMark 5 (some .int), Cond.methodLink RX0 156 yX0_shelfSize, Cond.static yX0_shelfSize, Cond.code yX0_shelfSize cX0_shelfSize 1 (some .int), Cond.methodLink RX0 129 yX0_insertAt, Cond.instanceMethod yX0_insertAt, Cond.selects RX0 yX0_insertAt yX0_insertAt, Cond.code yX0_insertAt cX0_insertAt 5 none, Cond.methodLink RX0 122 yX0_set, Cond.instanceMethod yX0_set, Cond.selects RX0 yX0_set yX0_set, Cond.code yX0_set cX0_set 4 none, Cond.methodLink RX0 132 yX0_spreadOut, Cond.instanceMethod yX0_spreadOut]
def wsL_step_r7 : List Cond := [Cond.selects RX0 yX0_spreadOut yX0_spreadOut, Cond.code yX0_spreadOut cX0_spreadOut 8 none, Cond.methodLink RX0 148 yX0_countSpread, Cond.instanceMethod yX0_countSpread, Cond.selects RX0 yX0_countSpread yX0_countSpread, Cond.code yX0_countSpread cX0_countSpread 2 none, Cond.fieldLink RX0 19 "ShelfMarks" "spreads" "[I", Cond.methodLink RL 15 yX0_putBehind, Cond.instanceMethod yX0_putBehind, Cond.selects RX0 yX0_putBehind yX0_putBehind, Cond.code yX0_putBehind cX0_putBehind 4 (some .int), Cond.methodLink RL 19 yX0_takeOut, Cond.instanceMethod yX0_takeOut, Cond.selects RX0 yX0_takeOut yX0_takeOut, Cond.code yX0_takeOut cX0_takeOut 3 (some .int), Cond.methodLink RX0 46 yX0_sendReadersOn, Cond.instanceMethod yX0_sendReadersOn, Cond.selects RX0 yX0_sendReadersOn yX0_sendReadersOn, Cond.code yX0_sendReadersOn cX0_sendReadersOn 4 none, Cond.methodLink RX0 49 yX0_removeAt, Cond.instanceMethod yX0_removeAt, Cond.selects RX0 yX0_removeAt yX0_removeAt, Cond.code yX0_removeAt cX0_removeAt 3 none, Cond.methodLink RL 22 yX0_carry]
def wsL_step_r8 : List Cond := [Cond.instanceMethod yX0_carry, Cond.selects RX0 yX0_carry yX0_carry, Cond.code yX0_carry cX0_carry 4 (some .int), Cond.classLink RX0 57 "java/lang/IllegalArgumentException", Cond.initialized "java/lang/IllegalArgumentException", Cond.methodLink RL 26 yX0_seat, Cond.instanceMethod yX0_seat, Cond.selects RX0 yX0_seat yX0_seat, Cond.code yX0_seat cX0_seat 3 (some .int), Cond.methodLink RX0 101 yX0_readersAt, Cond.instanceMethod yX0_readersAt, Cond.selects RX0 yX0_readersAt yX0_readersAt, Cond.code yX0_readersAt cX0_readersAt 4 (some .int), Cond.methodLink RL 70 yX0_passDay, Cond.instanceMethod yX0_passDay, Cond.selects RX0 yX0_passDay yX0_passDay, Cond.code yX0_passDay cX0_passDay 4 (some .int)]
def wsL_step : List Cond := .code yL_step cL_step 11 (some .boolean) :: ((wsL_step_r1 ++ (wsL_step_r2 ++ (wsL_step_r3 ++ (wsL_step_r4 ++ (wsL_step_r5 ++ (wsL_step_r6 ++ (wsL_step_r7 ++ wsL_step_r8))))))) ++ wsX00 ++ (vx_atS RX0 83 "java/lang/IndexOutOfBoundsException" ["java/lang/RuntimeException", "java/lang/Exception"]).filter goodWord ++ (vx_atS RX0 113 "java/lang/IllegalStateException" ["java/lang/RuntimeException", "java/lang/Exception"]).filter goodWord ++ (vx_atS RX0 61 "java/lang/IllegalArgumentException" ["java/lang/RuntimeException", "java/lang/Exception"]).filter goodWord)
def wsL_law0_r1 : List Cond := [Cond.classLink RL 10 RX0, Cond.instantiable RX0 8, Cond.initialized RX0, Cond.arrayClass .int, Cond.methodLink RL 73 yX0_init, Cond.instanceMethod yX0_init, Cond.code yX0_init cX0_init 2 none, Cond.methodLink RX0 1 objectInit, Cond.instanceMethod objectInit, Cond.code objectInit ⟨#[0xb1]⟩ 1 none, Cond.fieldLink RX0 9 "ShelfMarks" "folders" "[I", Cond.fieldLink RX0 13 "ShelfMarks" "marks" "[I", Cond.fieldLink RX0 16 "ShelfMarks" "LOADED_FROM" "[I", Cond.fieldLink RX0 19 "ShelfMarks" "spreads" "[I", Cond.fieldLink RX0 22 "ShelfMarks" "readerFolders" "[I", Cond.fieldLink RX0 25 "ShelfMarks" "readerCounts" "[I", Cond.methodLink RL 74 yL_drawn, Cond.static yL_drawn, Cond.initialized RL, Cond.code yL_drawn cL_drawn 3 (some .int), Cond.constant RL 7 (51001), Cond.constant RL 8 (2147483647), Cond.methodLink RL 78 yL_passing, Cond.static yL_passing]
def wsL_law0_r2 : List Cond := [Cond.code yL_passing cL_passing 7 (some .boolean), Cond.methodLink RL 59 yX0_size, Cond.instanceMethod yX0_size, Cond.selects RX0 yX0_size yX0_size, Cond.code yX0_size cX0_size 1 (some .int), Cond.fieldLink RX0 53 "ShelfMarks" "count" "I", Cond.methodLink RL 62 yL_done, Cond.static yL_done, Cond.codeWith yL_done cL_done 5 (some .int) [(0, 57, 58, 29), (0, 57, 63, 31), (0, 57, 68, 33)], Cond.classLink RL 29 "java/lang/IllegalStateException", Cond.classLink RL 31 "java/lang/IndexOutOfBoundsException", Cond.classLink RL 33 "java/lang/IllegalArgumentException", Cond.methodLink RL 9 yX0_putFirst, Cond.instanceMethod yX0_putFirst, Cond.selects RX0 yX0_putFirst yX0_putFirst, Cond.code yX0_putFirst cX0_putFirst 2 (some .int), Cond.methodLink RX0 28 yX0_requireThatOneMayCome, Cond.instanceMethod yX0_requireThatOneMayCome, Cond.selects RX0 yX0_requireThatOneMayCome yX0_requireThatOneMayCome, Cond.code yX0_requireThatOneMayCome cX0_requireThatOneMayCome 1 none, Cond.classLink RX0 109 "java/lang/IllegalStateException", Cond.initialized "java/lang/IllegalStateException", Cond.fieldLink RX0 106 "ShelfMarks" "came" "I", Cond.methodLink RX0 31 yX0_nextNumber]
def wsL_law0_r3 : List Cond := [Cond.instanceMethod yX0_nextNumber, Cond.selects RX0 yX0_nextNumber yX0_nextNumber, Cond.code yX0_nextNumber cX0_nextNumber 2 (some .int), Cond.methodLink RX0 35 yX0_putIn, Cond.instanceMethod yX0_putIn, Cond.selects RX0 yX0_putIn yX0_putIn, Cond.code yX0_putIn cX0_putIn 3 none, Cond.fieldLink RX0 95 "ShelfMarks" "moves" "I", Cond.methodLink RX0 92 yX0_movesByPuttingIn, Cond.instanceMethod yX0_movesByPuttingIn, Cond.selects RX0 yX0_movesByPuttingIn yX0_movesByPuttingIn, Cond.code yX0_movesByPuttingIn cX0_movesByPuttingIn 9 (some .int), Cond.methodLink RX0 126 yX0_hasFreeMark, Cond.instanceMethod yX0_hasFreeMark, Cond.selects RX0 yX0_hasFreeMark yX0_hasFreeMark, Cond.code yX0_hasFreeMark cX0_hasFreeMark 2 (some .boolean), Cond.methodLink RX0 67 yX0_markAt, Cond.instanceMethod yX0_markAt, Cond.selects RX0 yX0_markAt yX0_markAt, Cond.code yX0_markAt cX0_markAt 2 (some .int), Cond.methodLink RX0 118 yX0_isPlace, Cond.instanceMethod yX0_isPlace, Cond.selects RX0 yX0_isPlace yX0_isPlace, Cond.code yX0_isPlace cX0_isPlace 2 (some .boolean)]
def wsL_law0_r4 : List Cond := [Cond.methodLink RX0 135 yX0_levelToSpread, Cond.instanceMethod yX0_levelToSpread, Cond.selects RX0 yX0_levelToSpread yX0_levelToSpread, Cond.code yX0_levelToSpread cX0_levelToSpread 4 (some .int), Cond.methodLink RX0 138 yX0_shelfToSpread, Cond.instanceMethod yX0_shelfToSpread, Cond.selects RX0 yX0_shelfToSpread yX0_shelfToSpread, Cond.code yX0_shelfToSpread cX0_shelfToSpread 3 (some .int), Cond.methodLink RX0 151 Lib.Math.max.name, Cond.static Lib.Math.max.name, Cond.initialized "java/lang/Math", Cond.code Lib.Math.max.name Lib.Math.max.code 2 (some .int), Cond.methodLink RX0 88 yX0_isLoaded, Cond.instanceMethod yX0_isLoaded, Cond.selects RX0 yX0_isLoaded yX0_isLoaded, Cond.code yX0_isLoaded cX0_isLoaded 3 (some .boolean), Cond.methodLink RX0 84 yX0_foldersOn, Cond.instanceMethod yX0_foldersOn, Cond.selects RX0 yX0_foldersOn yX0_foldersOn, Cond.code yX0_foldersOn cX0_foldersOn 3 (some .int), Cond.methodLink RX0 141 yX0_firstMark, Cond.static yX0_firstMark, Cond.code yX0_firstMark cX0_firstMark 2 (some .int), Cond.methodLink RX0 70 yX0_marksBelow]
def wsL_law0_r5 : List Cond := [Cond.instanceMethod yX0_marksBelow, Cond.selects RX0 yX0_marksBelow yX0_marksBelow, Cond.code yX0_marksBelow cX0_marksBelow 3 (some .int), Cond.methodLink RX0 144 yX0_spreadMark, Cond.static yX0_spreadMark, Cond.code yX0_spreadMark cX0_spreadMark 5 (some .int), Cond.methodLink RX0 156 yX0_shelfSize, Cond.static yX0_shelfSize, Cond.code yX0_shelfSize cX0_shelfSize 1 (some .int), Cond.methodLink RX0 129 yX0_insertAt, Cond.instanceMethod yX0_insertAt, Cond.selects RX0 yX0_insertAt yX0_insertAt, Cond.code yX0_insertAt cX0_insertAt 5 none, Cond.methodLink RX0 43 yX0_folderAt, Cond.instanceMethod yX0_folderAt, Cond.selects RX0 yX0_folderAt yX0_folderAt, Cond.code yX0_folderAt cX0_folderAt 2 (some .int), Cond.methodLink RX0 122 yX0_set, Cond.instanceMethod yX0_set, Cond.selects RX0 yX0_set yX0_set, Cond.code yX0_set cX0_set 4 none, Cond.methodLink RX0 132 yX0_spreadOut, Cond.instanceMethod yX0_spreadOut, Cond.selects RX0 yX0_spreadOut yX0_spreadOut]
def wsL_law0_r6 : List Cond := [Cond.code yX0_spreadOut cX0_spreadOut 8 none, Cond.methodLink RX0 148 yX0_countSpread, Cond.instanceMethod yX0_countSpread, Cond.selects RX0 yX0_countSpread yX0_countSpread, Cond.code yX0_countSpread cX0_countSpread 2 none, Cond.methodLink RL 15 yX0_putBehind, Cond.instanceMethod yX0_putBehind, Cond.selects RX0 yX0_putBehind yX0_putBehind, Cond.code yX0_putBehind cX0_putBehind 4 (some .int), Cond.methodLink RX0 39 yX0_requirePlace, Cond.instanceMethod yX0_requirePlace, Cond.selects RX0 yX0_requirePlace yX0_requirePlace, Cond.code yX0_requirePlace cX0_requirePlace 3 (some .int), Cond.classLink RX0 79 "java/lang/IndexOutOfBoundsException", Cond.initialized "java/lang/IndexOutOfBoundsException", Cond.methodLink RX0 64 yX0_placeOf, Cond.instanceMethod yX0_placeOf, Cond.selects RX0 yX0_placeOf yX0_placeOf, Cond.code yX0_placeOf cX0_placeOf 3 (some .int), Cond.methodLink RL 19 yX0_takeOut, Cond.instanceMethod yX0_takeOut, Cond.selects RX0 yX0_takeOut yX0_takeOut, Cond.code yX0_takeOut cX0_takeOut 3 (some .int), Cond.methodLink RX0 46 yX0_sendReadersOn]
def wsL_law0_r7 : List Cond := [Cond.instanceMethod yX0_sendReadersOn, Cond.selects RX0 yX0_sendReadersOn yX0_sendReadersOn, Cond.code yX0_sendReadersOn cX0_sendReadersOn 4 none, Cond.methodLink RX0 49 yX0_removeAt, Cond.instanceMethod yX0_removeAt, Cond.selects RX0 yX0_removeAt yX0_removeAt, Cond.code yX0_removeAt cX0_removeAt 3 none, Cond.methodLink RL 22 yX0_carry, Cond.instanceMethod yX0_carry, Cond.selects RX0 yX0_carry yX0_carry, Cond.code yX0_carry cX0_carry 4 (some .int), Cond.classLink RX0 57 "java/lang/IllegalArgumentException", Cond.initialized "java/lang/IllegalArgumentException", Cond.methodLink RL 26 yX0_seat, Cond.instanceMethod yX0_seat, Cond.selects RX0 yX0_seat yX0_seat, Cond.code yX0_seat cX0_seat 3 (some .int), Cond.methodLink RX0 98 yX0_requireReader, Cond.static yX0_requireReader, Cond.code yX0_requireReader cX0_requireReader 1 none, Cond.methodLink RX0 101 yX0_readersAt, Cond.instanceMethod yX0_readersAt, Cond.selects RX0 yX0_readersAt yX0_readersAt, Cond.code yX0_readersAt cX0_readersAt 4 (some .int)]
def wsL_law0_r8 : List Cond := [Cond.methodLink RL 66 yL_folderAt, Cond.static yL_folderAt, Cond.code yL_folderAt cL_folderAt 4 (some .int), Cond.methodLink RL 50 yX0_first, Cond.instanceMethod yX0_first, Cond.selects RX0 yX0_first yX0_first, Cond.code yX0_first cX0_first 1 (some .int), Cond.methodLink RL 53 yL_asked, Cond.static yL_asked, Cond.codeWith yL_asked cL_asked 4 (some .int) [(0, 56, 57, 31)], Cond.methodLink RL 35 yX0_next, Cond.instanceMethod yX0_next, Cond.selects RX0 yX0_next yX0_next, Cond.code yX0_next cX0_next 2 (some .int), Cond.methodLink RL 38 yX0_mark, Cond.instanceMethod yX0_mark, Cond.selects RX0 yX0_mark yX0_mark, Cond.code yX0_mark cX0_mark 2 (some .int), Cond.methodLink RL 41 yX0_ahead, Cond.instanceMethod yX0_ahead, Cond.selects RX0 yX0_ahead yX0_ahead, Cond.code yX0_ahead cX0_ahead 2 (some .int), Cond.methodLink RL 44 yX0_at, Cond.instanceMethod yX0_at]
def wsL_law0_r9 : List Cond := [Cond.selects RX0 yX0_at yX0_at, Cond.code yX0_at cX0_at 2 (some .int), Cond.methodLink RL 47 yX0_read, Cond.instanceMethod yX0_read, Cond.selects RX0 yX0_read yX0_read, Cond.code yX0_read cX0_read 2 (some .int), Cond.methodLink RL 82 yL_step, Cond.static yL_step, Cond.code yL_step cL_step 11 (some .boolean), Cond.methodLink RL 70 yX0_passDay, Cond.instanceMethod yX0_passDay, Cond.selects RX0 yX0_passDay yX0_passDay, Cond.code yX0_passDay cX0_passDay 4 (some .int), Cond.methodLink RL 86 yL_areAlike, Cond.static yL_areAlike, Cond.code yL_areAlike cL_areAlike 10 (some .boolean)]
def wsL_law0 : List Cond := (wsL_law0_r1 ++ (wsL_law0_r2 ++ (wsL_law0_r3 ++ (wsL_law0_r4 ++ (wsL_law0_r5 ++ (wsL_law0_r6 ++ (wsL_law0_r7 ++ (wsL_law0_r8 ++ wsL_law0_r9)))))))) ++ wsX00 ++ ([] : List Cond)
def wsL_law : List Cond := wsL_law0 ++ (vx_atS RX0 113 "java/lang/IllegalStateException" ["java/lang/RuntimeException", "java/lang/Exception"]).filter goodWord ++ (vx_atS RX0 83 "java/lang/IndexOutOfBoundsException" ["java/lang/RuntimeException", "java/lang/Exception"]).filter goodWord ++ (vx_atS RX0 61 "java/lang/IllegalArgumentException" ["java/lang/RuntimeException", "java/lang/Exception"]).filter goodWord
end
section
set_option maxRecDepth 20000 in
theorem wsL_law0_r1_in : GoodIn lw_tbl wsL_law0_r1 := goodIn_r _ [32, 33, 24, 67, 34, 35, 36, 37, 38, 39, 42, 43, 40, 47, 48, 49, 68, 69, 23, 70, 71, 72, 73, 74] (by decide +kernel) (by decide +kernel)
set_option maxRecDepth 20000 in
theorem wsL_law0_r2_in : GoodIn lw_tbl wsL_law0_r2 := goodIn_r _ [75, 76, 77, 78, 79, 44, 80, 81, 82, 83, 84, 85, 86, 87, 88, 89, 90, 92, 0, 93, 94, 28, 45, 162] (by decide +kernel) (by decide +kernel)
set_option maxRecDepth 20000 in
theorem wsL_law0_r3_in : GoodIn lw_tbl wsL_law0_r3 := goodIn_r _ [164, 2, 165, 166, 168, 3, 169, 46, 170, 172, 4, 173, 174, 176, 5, 177, 178, 180, 6, 181, 182, 184, 7, 185] (by decide +kernel) (by decide +kernel)
set_option maxRecDepth 20000 in
theorem wsL_law0_r4_in : GoodIn lw_tbl wsL_law0_r4 := goodIn_r _ [186, 188, 8, 189, 190, 192, 9, 193, 194, 195, 29, 196, 197, 199, 10, 200, 201, 203, 11, 204, 205, 206, 207, 208] (by decide +kernel) (by decide +kernel)
set_option maxRecDepth 20000 in
theorem wsL_law0_r5_in : GoodIn lw_tbl wsL_law0_r5 := goodIn_r _ [210, 12, 211, 212, 213, 214, 215, 216, 217, 218, 220, 13, 221, 222, 224, 14, 225, 226, 228, 15, 229, 230, 232, 16] (by decide +kernel) (by decide +kernel)
set_option maxRecDepth 20000 in
theorem wsL_law0_r6_in : GoodIn lw_tbl wsL_law0_r6 := goodIn_r _ [233, 234, 236, 17, 237, 238, 239, 240, 241, 242, 244, 18, 245, 250, 30, 246, 248, 19, 249, 266, 267, 268, 269, 270] (by decide +kernel) (by decide +kernel)
set_option maxRecDepth 20000 in
theorem wsL_law0_r7_in : GoodIn lw_tbl wsL_law0_r7 := goodIn_r _ [272, 20, 273, 274, 276, 21, 277, 278, 279, 280, 281, 282, 31, 298, 299, 300, 301, 302, 303, 304, 306, 308, 22, 309] (by decide +kernel) (by decide +kernel)
set_option maxRecDepth 20000 in
theorem wsL_law0_r8_in : GoodIn lw_tbl wsL_law0_r8 := goodIn_r _ [310, 311, 312, 313, 314, 315, 316, 317, 318, 319, 320, 321, 322, 323, 324, 325, 326, 327, 328, 329, 330, 331, 332, 333] (by decide +kernel) (by decide +kernel)
set_option maxRecDepth 20000 in
theorem wsL_law0_r9_in : GoodIn lw_tbl wsL_law0_r9 := goodIn_r _ [334, 335, 336, 337, 338, 339, 343, 344, 345, 346, 347, 348, 349, 340, 341, 342] (by decide +kernel) (by decide +kernel)
set_option maxRecDepth 20000 in
theorem wsX00_in : GoodIn lw_tbl wsX00 := goodIn_r _ [50, 52, 54, 56, 58, 60, 62, 64] (by decide +kernel) (by decide +kernel)
set_option maxRecDepth 20000 in
theorem wsL_law_in0 : ∀ w ∈ wsL_law0, w ∈ lw_tbl := fun w h => ((goodIn_app (goodIn_app (goodIn_app wsL_law0_r1_in (goodIn_app wsL_law0_r2_in (goodIn_app wsL_law0_r3_in (goodIn_app wsL_law0_r4_in (goodIn_app wsL_law0_r5_in (goodIn_app wsL_law0_r6_in (goodIn_app wsL_law0_r7_in (goodIn_app wsL_law0_r8_in (wsL_law0_r9_in))))))))) wsX00_in) (fun w h => by cases h) : GoodIn lw_tbl wsL_law0) w h).1
theorem wsL_law_x0 : ∀ w ∈ (vx_atS RX0 113 "java/lang/IllegalStateException" ["java/lang/RuntimeException", "java/lang/Exception"]).filter goodWord, w ∈ lw_tbl := by decide +kernel
theorem wsL_law_x1 : ∀ w ∈ (vx_atS RX0 83 "java/lang/IndexOutOfBoundsException" ["java/lang/RuntimeException", "java/lang/Exception"]).filter goodWord, w ∈ lw_tbl := by decide +kernel
theorem wsL_law_x2 : ∀ w ∈ (vx_atS RX0 61 "java/lang/IllegalArgumentException" ["java/lang/RuntimeException", "java/lang/Exception"]).filter goodWord, w ∈ lw_tbl := by decide +kernel
theorem wsL_law_in : ∀ w ∈ wsL_law, w ∈ lw_tbl := fun w h => (List.mem_append.mp h).elim (fun h => (List.mem_append.mp h).elim (fun h => (List.mem_append.mp h).elim (fun h => wsL_law_in0 w h) (fun h => wsL_law_x0 w h)) (fun h => wsL_law_x1 w h)) (fun h => wsL_law_x2 w h)
theorem inlX0 : ∀ w ∈ wsX00, w ∈ wsL_law := fun _ h => List.mem_append_left _ (List.mem_append_left _ (List.mem_append_left _ (List.mem_append_left _ (List.mem_append_right _ h))))
theorem inX0 : ∀ w ∈ wsX00, w ∈ lw_tbl := fun w h => wsL_law_in w (inlX0 w h)
theorem inX1 : ∀ w ∈ wsX10, w ∈ lw_tbl := by decide +kernel
theorem inJ9 : ∀ w ∈ wsJ90, w ∈ lw_tbl := by decide +kernel
theorem inJ0 : ∀ w ∈ wsJ00, w ∈ lw_tbl := by decide +kernel
end
section
theorem dX0_init_0 : decode cX0_init 0 = .ok (.aload_n 0, 1) := by decide +kernel
theorem dX0_init_1 : decode cX0_init 1 = .ok (.invokespecial 1, 3) := by decide +kernel
theorem dX0_init_4 : decode cX0_init 4 = .ok (.aload_n 0, 1) := by decide +kernel
theorem dX0_init_5 : decode cX0_init 5 = .ok (.bipush 60, 2) := by decide +kernel
theorem dX0_init_7 : decode cX0_init 7 = .ok (.newarray .int, 2) := by decide +kernel
theorem dX0_init_9 : decode cX0_init 9 = .ok (.putfield 9, 3) := by decide +kernel
theorem dX0_init_12 : decode cX0_init 12 = .ok (.aload_n 0, 1) := by decide +kernel
theorem dX0_init_13 : decode cX0_init 13 = .ok (.bipush 60, 2) := by decide +kernel
theorem dX0_init_15 : decode cX0_init 15 = .ok (.newarray .int, 2) := by decide +kernel
theorem dX0_init_17 : decode cX0_init 17 = .ok (.putfield 13, 3) := by decide +kernel
theorem dX0_init_20 : decode cX0_init 20 = .ok (.aload_n 0, 1) := by decide +kernel
theorem dX0_init_21 : decode cX0_init 21 = .ok (.getstatic 16, 3) := by decide +kernel
theorem dX0_init_24 : decode cX0_init 24 = .ok (.arraylength, 1) := by decide +kernel
theorem dX0_init_25 : decode cX0_init 25 = .ok (.newarray .int, 2) := by decide +kernel
theorem dX0_init_27 : decode cX0_init 27 = .ok (.putfield 19, 3) := by decide +kernel
theorem dX0_init_30 : decode cX0_init 30 = .ok (.aload_n 0, 1) := by decide +kernel
theorem dX0_init_31 : decode cX0_init 31 = .ok (.iconst 4, 1) := by decide +kernel
theorem dX0_init_32 : decode cX0_init 32 = .ok (.newarray .int, 2) := by decide +kernel
theorem dX0_init_34 : decode cX0_init 34 = .ok (.putfield 22, 3) := by decide +kernel
theorem dX0_init_37 : decode cX0_init 37 = .ok (.aload_n 0, 1) := by decide +kernel
theorem dX0_init_38 : decode cX0_init 38 = .ok (.iconst 4, 1) := by decide +kernel
theorem dX0_init_39 : decode cX0_init 39 = .ok (.newarray .int, 2) := by decide +kernel
theorem dX0_init_41 : decode cX0_init 41 = .ok (.putfield 25, 3) := by decide +kernel
theorem dX0_init_44 : decode cX0_init 44 = .ok (.iconst 0, 1) := by decide +kernel
theorem dX0_init_45 : decode cX0_init 45 = .ok (.istore_n 1, 1) := by decide +kernel
theorem dX0_init_46 : decode cX0_init 46 = .ok (.iload_n 1, 1) := by decide +kernel
theorem dX0_init_47 : decode cX0_init 47 = .ok (.iconst 4, 1) := by decide +kernel
theorem dX0_init_48 : decode cX0_init 48 = .ok (.if_icmp .ge 16, 3) := by decide +kernel
theorem dX0_init_51 : decode cX0_init 51 = .ok (.aload_n 0, 1) := by decide +kernel
theorem dX0_init_52 : decode cX0_init 52 = .ok (.getfield 22, 3) := by decide +kernel
theorem dX0_init_55 : decode cX0_init 55 = .ok (.iload_n 1, 1) := by decide +kernel
theorem dX0_init_56 : decode cX0_init 56 = .ok (.iconst (-1), 1) := by decide +kernel
theorem dX0_init_57 : decode cX0_init 57 = .ok (.iastore, 1) := by decide +kernel
theorem dX0_init_58 : decode cX0_init 58 = .ok (.iinc 1 1, 3) := by decide +kernel
theorem dX0_init_61 : decode cX0_init 61 = .ok (.goto (-15), 3) := by decide +kernel
theorem dX0_init_64 : decode cX0_init 64 = .ok (.return_, 1) := by decide +kernel
set_option maxRecDepth 20000 in
theorem ggX0_putFirst_X0_requireThatOneMayCome : GoodIn wsX0_putFirst wsX0_requireThatOneMayCome := goodIn_ca (goodIn_r _ [5, 6, 7, 8, 9, 92, 93, 94, 95, 96, 97, 98, 99] (by decide +kernel) (by decide +kernel)) (goodIn_sub (fun _ h => List.mem_cons_of_mem _ (List.mem_append_right _ h)) (by decide +kernel))
set_option maxRecDepth 20000 in
theorem gX0_putFirst_X0_requireThatOneMayCome : GoodIn wsX0_putFirst (wsV RX0 28 RX0 yX0_requireThatOneMayCome wsX0_requireThatOneMayCome) := goodIn_app (goodIn_of _ (by decide +kernel)) ggX0_putFirst_X0_requireThatOneMayCome
set_option maxRecDepth 20000 in
theorem ggX0_putFirst_X0_nextNumber : GoodIn wsX0_putFirst wsX0_nextNumber := goodIn_r _ [13, 8, 92, 93, 94, 95, 96, 97, 98, 99] (by decide +kernel) (by decide +kernel)
set_option maxRecDepth 20000 in
theorem gX0_putFirst_X0_nextNumber : GoodIn wsX0_putFirst (wsV RX0 31 RX0 yX0_nextNumber wsX0_nextNumber) := goodIn_app (goodIn_of _ (by decide +kernel)) ggX0_putFirst_X0_nextNumber
set_option maxRecDepth 20000 in
theorem ggX0_putFirst_X0_putIn : GoodIn wsX0_putFirst wsX0_putIn := goodIn_r _ [17, 18, 19, 20, 21, 4, 22, 23, 24, 25, 26, 27, 28, 29, 30, 31, 32, 33, 34, 35, 9, 36, 37, 38, 39, 40, 41, 42, 43, 44, 45, 46, 47, 48, 49, 50, 51, 52, 53, 54, 55, 56, 57, 58, 59, 60, 61, 62, 63, 64, 65, 66, 67, 68, 69, 70, 71, 72, 73, 74, 75, 76, 77, 78, 79, 80, 81, 82, 83, 84, 85, 86, 87, 88, 89, 90, 91, 92, 93, 94, 95, 96, 97, 98, 99] (by decide +kernel) (by decide +kernel)
set_option maxRecDepth 20000 in
theorem gX0_putFirst_X0_putIn : GoodIn wsX0_putFirst (wsV RX0 35 RX0 yX0_putIn wsX0_putIn) := goodIn_app (goodIn_of _ (by decide +kernel)) ggX0_putFirst_X0_putIn
theorem dX0_putFirst_0 : decode cX0_putFirst 0 = .ok (.aload_n 0, 1) := by decide +kernel
theorem dX0_putFirst_1 : decode cX0_putFirst 1 = .ok (.invokevirtual 28, 3) := by decide +kernel
theorem dX0_putFirst_4 : decode cX0_putFirst 4 = .ok (.aload_n 0, 1) := by decide +kernel
theorem dX0_putFirst_5 : decode cX0_putFirst 5 = .ok (.invokevirtual 31, 3) := by decide +kernel
theorem dX0_putFirst_8 : decode cX0_putFirst 8 = .ok (.istore_n 1, 1) := by decide +kernel
theorem dX0_putFirst_9 : decode cX0_putFirst 9 = .ok (.aload_n 0, 1) := by decide +kernel
theorem dX0_putFirst_10 : decode cX0_putFirst 10 = .ok (.iload_n 1, 1) := by decide +kernel
theorem dX0_putFirst_11 : decode cX0_putFirst 11 = .ok (.iconst 0, 1) := by decide +kernel
theorem dX0_putFirst_12 : decode cX0_putFirst 12 = .ok (.invokevirtual 35, 3) := by decide +kernel
theorem dX0_putFirst_15 : decode cX0_putFirst 15 = .ok (.iload_n 1, 1) := by decide +kernel
theorem dX0_putFirst_16 : decode cX0_putFirst 16 = .ok (.ireturn, 1) := by decide +kernel
set_option maxRecDepth 20000 in
theorem ggX0_putBehind_X0_requirePlace : GoodIn wsX0_putBehind wsX0_requirePlace := goodIn_ca (goodIn_r _ [5, 6, 7, 8, 9, 10, 4, 11, 12, 13, 102, 103, 104, 105, 106, 107, 108, 109] (by decide +kernel) (by decide +kernel)) (goodIn_sub (fun _ h => List.mem_cons_of_mem _ (List.mem_append_left _ (List.mem_append_right _ h))) (by decide +kernel))
set_option maxRecDepth 20000 in
theorem gX0_putBehind_X0_requirePlace : GoodIn wsX0_putBehind (wsV RX0 39 RX0 yX0_requirePlace wsX0_requirePlace) := goodIn_app (goodIn_of _ (by decide +kernel)) ggX0_putBehind_X0_requirePlace
set_option maxRecDepth 20000 in
theorem ggX0_putBehind_X0_requireThatOneMayCome : GoodIn wsX0_putBehind wsX0_requireThatOneMayCome := goodIn_ca (goodIn_r _ [17, 18, 19, 20, 12, 102, 103, 104, 105, 106, 107, 108, 109] (by decide +kernel) (by decide +kernel)) (goodIn_sub (fun _ h => List.mem_cons_of_mem _ (List.mem_append_right _ h)) (by decide +kernel))
set_option maxRecDepth 20000 in
theorem gX0_putBehind_X0_requireThatOneMayCome : GoodIn wsX0_putBehind (wsV RX0 28 RX0 yX0_requireThatOneMayCome wsX0_requireThatOneMayCome) := goodIn_app (goodIn_of _ (by decide +kernel)) ggX0_putBehind_X0_requireThatOneMayCome
set_option maxRecDepth 20000 in
theorem ggX0_putBehind_X0_nextNumber : GoodIn wsX0_putBehind wsX0_nextNumber := goodIn_r _ [24, 20, 102, 103, 104, 105, 106, 107, 108, 109] (by decide +kernel) (by decide +kernel)
set_option maxRecDepth 20000 in
theorem gX0_putBehind_X0_nextNumber : GoodIn wsX0_putBehind (wsV RX0 31 RX0 yX0_nextNumber wsX0_nextNumber) := goodIn_app (goodIn_of _ (by decide +kernel)) ggX0_putBehind_X0_nextNumber
set_option maxRecDepth 20000 in
theorem ggX0_putBehind_X0_putIn : GoodIn wsX0_putBehind wsX0_putIn := goodIn_r _ [28, 29, 30, 31, 32, 4, 33, 34, 35, 36, 37, 38, 39, 40, 41, 42, 43, 44, 45, 46, 12, 13, 47, 48, 49, 50, 51, 52, 53, 54, 55, 56, 57, 58, 59, 60, 61, 62, 63, 64, 65, 66, 67, 68, 69, 70, 71, 72, 73, 74, 75, 76, 77, 78, 79, 80, 81, 82, 83, 84, 85, 86, 87, 88, 89, 90, 91, 92, 93, 94, 95, 96, 97, 98, 99, 100, 101, 102, 103, 104, 105, 106, 107, 108, 109] (by decide +kernel) (by decide +kernel)
set_option maxRecDepth 20000 in
theorem gX0_putBehind_X0_putIn : GoodIn wsX0_putBehind (wsV RX0 35 RX0 yX0_putIn wsX0_putIn) := goodIn_app (goodIn_of _ (by decide +kernel)) ggX0_putBehind_X0_putIn
theorem dX0_putBehind_0 : decode cX0_putBehind 0 = .ok (.aload_n 0, 1) := by decide +kernel
theorem dX0_putBehind_1 : decode cX0_putBehind 1 = .ok (.iload_n 1, 1) := by decide +kernel
theorem dX0_putBehind_2 : decode cX0_putBehind 2 = .ok (.invokevirtual 39, 3) := by decide +kernel
theorem dX0_putBehind_5 : decode cX0_putBehind 5 = .ok (.istore_n 2, 1) := by decide +kernel
theorem dX0_putBehind_6 : decode cX0_putBehind 6 = .ok (.aload_n 0, 1) := by decide +kernel
theorem dX0_putBehind_7 : decode cX0_putBehind 7 = .ok (.invokevirtual 28, 3) := by decide +kernel
theorem dX0_putBehind_10 : decode cX0_putBehind 10 = .ok (.aload_n 0, 1) := by decide +kernel
theorem dX0_putBehind_11 : decode cX0_putBehind 11 = .ok (.invokevirtual 31, 3) := by decide +kernel
theorem dX0_putBehind_14 : decode cX0_putBehind 14 = .ok (.istore_n 3, 1) := by decide +kernel
theorem dX0_putBehind_15 : decode cX0_putBehind 15 = .ok (.aload_n 0, 1) := by decide +kernel
theorem dX0_putBehind_16 : decode cX0_putBehind 16 = .ok (.iload_n 3, 1) := by decide +kernel
theorem dX0_putBehind_17 : decode cX0_putBehind 17 = .ok (.iload_n 2, 1) := by decide +kernel
theorem dX0_putBehind_18 : decode cX0_putBehind 18 = .ok (.iconst 1, 1) := by decide +kernel
theorem dX0_putBehind_19 : decode cX0_putBehind 19 = .ok (.iadd, 1) := by decide +kernel
theorem dX0_putBehind_20 : decode cX0_putBehind 20 = .ok (.invokevirtual 35, 3) := by decide +kernel
theorem dX0_putBehind_23 : decode cX0_putBehind 23 = .ok (.iload_n 3, 1) := by decide +kernel
theorem dX0_putBehind_24 : decode cX0_putBehind 24 = .ok (.ireturn, 1) := by decide +kernel
set_option maxRecDepth 20000 in
theorem ggX0_takeOut_X0_requirePlace : GoodIn wsX0_takeOut wsX0_requirePlace := goodIn_ca (goodIn_r _ [6, 7, 8, 9, 10, 11, 5, 12, 1, 13, 40, 41, 42, 43, 44, 45, 46, 47] (by decide +kernel) (by decide +kernel)) (goodIn_sub (fun _ h => List.mem_cons_of_mem _ (List.mem_append_right _ h)) (by decide +kernel))
set_option maxRecDepth 20000 in
theorem gX0_takeOut_X0_requirePlace : GoodIn wsX0_takeOut (wsV RX0 39 RX0 yX0_requirePlace wsX0_requirePlace) := goodIn_app (goodIn_of _ (by decide +kernel)) ggX0_takeOut_X0_requirePlace
set_option maxRecDepth 20000 in
theorem ggX0_takeOut_X0_folderAt : GoodIn wsX0_takeOut wsX0_folderAt := goodIn_r _ [17, 13, 18, 19, 20, 5, 21, 1, 22, 40, 41, 42, 43, 44, 45, 46, 47] (by decide +kernel) (by decide +kernel)
set_option maxRecDepth 20000 in
theorem gX0_takeOut_X0_folderAt : GoodIn wsX0_takeOut (wsV RX0 43 RX0 yX0_folderAt wsX0_folderAt) := goodIn_app (goodIn_of _ (by decide +kernel)) ggX0_takeOut_X0_folderAt
set_option maxRecDepth 20000 in
theorem ggX0_takeOut_X0_sendReadersOn : GoodIn wsX0_takeOut wsX0_sendReadersOn := goodIn_r _ [26, 27, 40, 41, 42, 43, 44, 45, 46, 47] (by decide +kernel) (by decide +kernel)
set_option maxRecDepth 20000 in
theorem gX0_takeOut_X0_sendReadersOn : GoodIn wsX0_takeOut (wsV RX0 46 RX0 yX0_sendReadersOn wsX0_sendReadersOn) := goodIn_app (goodIn_of _ (by decide +kernel)) ggX0_takeOut_X0_sendReadersOn
set_option maxRecDepth 20000 in
theorem ggX0_takeOut_X0_removeAt : GoodIn wsX0_takeOut wsX0_removeAt := goodIn_r _ [31, 1, 18, 19, 20, 5, 21, 13, 22, 14, 15, 16, 17, 32, 33, 34, 35, 36, 37, 38, 39, 40, 41, 42, 43, 44, 45, 46, 47] (by decide +kernel) (by decide +kernel)
set_option maxRecDepth 20000 in
theorem gX0_takeOut_X0_removeAt : GoodIn wsX0_takeOut (wsV RX0 49 RX0 yX0_removeAt wsX0_removeAt) := goodIn_app (goodIn_of _ (by decide +kernel)) ggX0_takeOut_X0_removeAt
theorem dX0_takeOut_0 : decode cX0_takeOut 0 = .ok (.aload_n 0, 1) := by decide +kernel
theorem dX0_takeOut_1 : decode cX0_takeOut 1 = .ok (.iload_n 1, 1) := by decide +kernel
theorem dX0_takeOut_2 : decode cX0_takeOut 2 = .ok (.invokevirtual 39, 3) := by decide +kernel
theorem dX0_takeOut_5 : decode cX0_takeOut 5 = .ok (.istore_n 2, 1) := by decide +kernel
theorem dX0_takeOut_6 : decode cX0_takeOut 6 = .ok (.aload_n 0, 1) := by decide +kernel
theorem dX0_takeOut_7 : decode cX0_takeOut 7 = .ok (.iload_n 1, 1) := by decide +kernel
theorem dX0_takeOut_8 : decode cX0_takeOut 8 = .ok (.aload_n 0, 1) := by decide +kernel
theorem dX0_takeOut_9 : decode cX0_takeOut 9 = .ok (.iload_n 2, 1) := by decide +kernel
theorem dX0_takeOut_10 : decode cX0_takeOut 10 = .ok (.iconst 1, 1) := by decide +kernel
theorem dX0_takeOut_11 : decode cX0_takeOut 11 = .ok (.iadd, 1) := by decide +kernel
theorem dX0_takeOut_12 : decode cX0_takeOut 12 = .ok (.invokevirtual 43, 3) := by decide +kernel
theorem dX0_takeOut_15 : decode cX0_takeOut 15 = .ok (.invokevirtual 46, 3) := by decide +kernel
theorem dX0_takeOut_18 : decode cX0_takeOut 18 = .ok (.aload_n 0, 1) := by decide +kernel
theorem dX0_takeOut_19 : decode cX0_takeOut 19 = .ok (.iload_n 2, 1) := by decide +kernel
theorem dX0_takeOut_20 : decode cX0_takeOut 20 = .ok (.invokevirtual 49, 3) := by decide +kernel
theorem dX0_takeOut_23 : decode cX0_takeOut 23 = .ok (.aload_n 0, 1) := by decide +kernel
theorem dX0_takeOut_24 : decode cX0_takeOut 24 = .ok (.getfield 53, 3) := by decide +kernel
theorem dX0_takeOut_27 : decode cX0_takeOut 27 = .ok (.ireturn, 1) := by decide +kernel
set_option maxRecDepth 20000 in
theorem ggX0_carry_X0_requirePlace : GoodIn wsX0_carry wsX0_requirePlace := goodIn_ca (goodIn_r _ [7, 8, 9, 10, 11, 12, 6, 13, 14, 15, 97, 98, 99, 100, 101, 102, 103, 104] (by decide +kernel) (by decide +kernel)) (goodIn_sub (fun _ h => List.mem_cons_of_mem _ (List.mem_append_right _ h)) (by decide +kernel))
set_option maxRecDepth 20000 in
theorem gX0_carry_X0_requirePlace : GoodIn wsX0_carry (wsV RX0 39 RX0 yX0_requirePlace wsX0_requirePlace) := goodIn_app (goodIn_of _ (by decide +kernel)) ggX0_carry_X0_requirePlace
set_option maxRecDepth 20000 in
theorem ggX0_carry_X0_removeAt : GoodIn wsX0_carry wsX0_removeAt := goodIn_r _ [19, 14, 20, 21, 22, 6, 23, 15, 24, 25, 26, 27, 28, 29, 30, 31, 32, 33, 34, 35, 36, 97, 98, 99, 100, 101, 102, 103, 104] (by decide +kernel) (by decide +kernel)
set_option maxRecDepth 20000 in
theorem gX0_carry_X0_removeAt : GoodIn wsX0_carry (wsV RX0 49 RX0 yX0_removeAt wsX0_removeAt) := goodIn_app (goodIn_of _ (by decide +kernel)) ggX0_carry_X0_removeAt
set_option maxRecDepth 20000 in
theorem ggX0_carry_X0_placeOf : GoodIn wsX0_carry wsX0_placeOf := goodIn_r _ [13, 14, 15, 97, 98, 99, 100, 101, 102, 103, 104] (by decide +kernel) (by decide +kernel)
set_option maxRecDepth 20000 in
theorem gX0_carry_X0_placeOf : GoodIn wsX0_carry (wsV RX0 64 RX0 yX0_placeOf wsX0_placeOf) := goodIn_app (goodIn_of _ (by decide +kernel)) ggX0_carry_X0_placeOf
set_option maxRecDepth 20000 in
theorem ggX0_carry_X0_putIn : GoodIn wsX0_carry wsX0_putIn := goodIn_r _ [40, 41, 42, 43, 44, 6, 45, 46, 47, 48, 49, 29, 30, 31, 32, 24, 20, 21, 22, 23, 14, 15, 50, 51, 52, 53, 54, 55, 56, 57, 58, 59, 60, 61, 62, 63, 64, 65, 66, 67, 68, 69, 70, 71, 72, 73, 74, 75, 76, 77, 78, 79, 80, 81, 82, 83, 84, 85, 86, 87, 25, 26, 27, 28, 33, 34, 35, 36, 88, 89, 90, 91, 92, 93, 94, 95, 96, 97, 98, 99, 100, 101, 102, 103, 104] (by decide +kernel) (by decide +kernel)
set_option maxRecDepth 20000 in
theorem gX0_carry_X0_putIn : GoodIn wsX0_carry (wsV RX0 35 RX0 yX0_putIn wsX0_putIn) := goodIn_app (goodIn_of _ (by decide +kernel)) ggX0_carry_X0_putIn
set_option maxRecDepth 20000 in
theorem ggX0_carry_X0_markAt : GoodIn wsX0_carry wsX0_markAt := goodIn_r _ [32, 24, 20, 21, 22, 6, 23, 14, 15, 97, 98, 99, 100, 101, 102, 103, 104] (by decide +kernel) (by decide +kernel)
set_option maxRecDepth 20000 in
theorem gX0_carry_X0_markAt : GoodIn wsX0_carry (wsV RX0 67 RX0 yX0_markAt wsX0_markAt) := goodIn_app (goodIn_of _ (by decide +kernel)) ggX0_carry_X0_markAt
theorem dX0_carry_0 : decode cX0_carry 0 = .ok (.aload_n 0, 1) := by decide +kernel
theorem dX0_carry_1 : decode cX0_carry 1 = .ok (.iload_n 1, 1) := by decide +kernel
theorem dX0_carry_2 : decode cX0_carry 2 = .ok (.invokevirtual 39, 3) := by decide +kernel
theorem dX0_carry_5 : decode cX0_carry 5 = .ok (.istore_n 3, 1) := by decide +kernel
theorem dX0_carry_6 : decode cX0_carry 6 = .ok (.aload_n 0, 1) := by decide +kernel
theorem dX0_carry_7 : decode cX0_carry 7 = .ok (.iload_n 2, 1) := by decide +kernel
theorem dX0_carry_8 : decode cX0_carry 8 = .ok (.invokevirtual 39, 3) := by decide +kernel
theorem dX0_carry_11 : decode cX0_carry 11 = .ok (.pop, 1) := by decide +kernel
theorem dX0_carry_12 : decode cX0_carry 12 = .ok (.iload_n 1, 1) := by decide +kernel
theorem dX0_carry_13 : decode cX0_carry 13 = .ok (.iload_n 2, 1) := by decide +kernel
theorem dX0_carry_14 : decode cX0_carry 14 = .ok (.if_icmp .ne 13, 3) := by decide +kernel
theorem dX0_carry_17 : decode cX0_carry 17 = .ok (.new 57, 3) := by decide +kernel
theorem dX0_carry_20 : decode cX0_carry 20 = .ok (.dup, 1) := by decide +kernel
theorem dX0_carry_21 : decode cX0_carry 21 = .ok (.ldc 59, 2) := by decide +kernel
theorem dX0_carry_23 : decode cX0_carry 23 = .ok (.invokespecial 61, 3) := by decide +kernel
theorem dX0_carry_26 : decode cX0_carry 26 = .ok (.athrow, 1) := by decide +kernel
theorem dX0_carry_27 : decode cX0_carry 27 = .ok (.aload_n 0, 1) := by decide +kernel
theorem dX0_carry_28 : decode cX0_carry 28 = .ok (.iload_n 3, 1) := by decide +kernel
theorem dX0_carry_29 : decode cX0_carry 29 = .ok (.invokevirtual 49, 3) := by decide +kernel
theorem dX0_carry_32 : decode cX0_carry 32 = .ok (.aload_n 0, 1) := by decide +kernel
theorem dX0_carry_33 : decode cX0_carry 33 = .ok (.iload_n 1, 1) := by decide +kernel
theorem dX0_carry_34 : decode cX0_carry 34 = .ok (.aload_n 0, 1) := by decide +kernel
theorem dX0_carry_35 : decode cX0_carry 35 = .ok (.iload_n 2, 1) := by decide +kernel
theorem dX0_carry_36 : decode cX0_carry 36 = .ok (.invokevirtual 64, 3) := by decide +kernel
theorem dX0_carry_39 : decode cX0_carry 39 = .ok (.iconst 1, 1) := by decide +kernel
theorem dX0_carry_40 : decode cX0_carry 40 = .ok (.iadd, 1) := by decide +kernel
theorem dX0_carry_41 : decode cX0_carry 41 = .ok (.invokevirtual 35, 3) := by decide +kernel
theorem dX0_carry_44 : decode cX0_carry 44 = .ok (.aload_n 0, 1) := by decide +kernel
theorem dX0_carry_45 : decode cX0_carry 45 = .ok (.aload_n 0, 1) := by decide +kernel
theorem dX0_carry_46 : decode cX0_carry 46 = .ok (.iload_n 1, 1) := by decide +kernel
theorem dX0_carry_47 : decode cX0_carry 47 = .ok (.invokevirtual 64, 3) := by decide +kernel
theorem dX0_carry_50 : decode cX0_carry 50 = .ok (.invokevirtual 67, 3) := by decide +kernel
theorem dX0_carry_53 : decode cX0_carry 53 = .ok (.ireturn, 1) := by decide +kernel
theorem dX0_size_0 : decode cX0_size 0 = .ok (.aload_n 0, 1) := by decide +kernel
theorem dX0_size_1 : decode cX0_size 1 = .ok (.getfield 53, 3) := by decide +kernel
theorem dX0_size_4 : decode cX0_size 4 = .ok (.ireturn, 1) := by decide +kernel
set_option maxRecDepth 20000 in
theorem ggX0_first_X0_folderAt : GoodIn wsX0_first wsX0_folderAt := goodIn_r _ [5, 6, 7, 8, 9, 4, 10, 11, 12, 13, 14, 15, 16, 17, 18, 19, 20] (by decide +kernel) (by decide +kernel)
set_option maxRecDepth 20000 in
theorem gX0_first_X0_folderAt : GoodIn wsX0_first (wsV RX0 43 RX0 yX0_folderAt wsX0_folderAt) := goodIn_app (goodIn_of _ (by decide +kernel)) ggX0_first_X0_folderAt
theorem dX0_first_0 : decode cX0_first 0 = .ok (.aload_n 0, 1) := by decide +kernel
theorem dX0_first_1 : decode cX0_first 1 = .ok (.iconst 0, 1) := by decide +kernel
theorem dX0_first_2 : decode cX0_first 2 = .ok (.invokevirtual 43, 3) := by decide +kernel
theorem dX0_first_5 : decode cX0_first 5 = .ok (.ireturn, 1) := by decide +kernel
set_option maxRecDepth 20000 in
theorem ggX0_next_X0_requirePlace : GoodIn wsX0_next wsX0_requirePlace := goodIn_ca (goodIn_r _ [5, 6, 7, 8, 9, 10, 4, 11, 12, 13, 23, 24, 25, 26, 27, 28, 29, 30] (by decide +kernel) (by decide +kernel)) (goodIn_sub (fun _ h => List.mem_cons_of_mem _ (List.mem_append_right _ h)) (by decide +kernel))
set_option maxRecDepth 20000 in
theorem gX0_next_X0_requirePlace : GoodIn wsX0_next (wsV RX0 39 RX0 yX0_requirePlace wsX0_requirePlace) := goodIn_app (goodIn_of _ (by decide +kernel)) ggX0_next_X0_requirePlace
set_option maxRecDepth 20000 in
theorem ggX0_next_X0_folderAt : GoodIn wsX0_next wsX0_folderAt := goodIn_r _ [17, 13, 18, 19, 20, 4, 21, 12, 22, 23, 24, 25, 26, 27, 28, 29, 30] (by decide +kernel) (by decide +kernel)
set_option maxRecDepth 20000 in
theorem gX0_next_X0_folderAt : GoodIn wsX0_next (wsV RX0 43 RX0 yX0_folderAt wsX0_folderAt) := goodIn_app (goodIn_of _ (by decide +kernel)) ggX0_next_X0_folderAt
theorem dX0_next_0 : decode cX0_next 0 = .ok (.aload_n 0, 1) := by decide +kernel
theorem dX0_next_1 : decode cX0_next 1 = .ok (.aload_n 0, 1) := by decide +kernel
theorem dX0_next_2 : decode cX0_next 2 = .ok (.iload_n 1, 1) := by decide +kernel
theorem dX0_next_3 : decode cX0_next 3 = .ok (.invokevirtual 39, 3) := by decide +kernel
theorem dX0_next_6 : decode cX0_next 6 = .ok (.iconst 1, 1) := by decide +kernel
theorem dX0_next_7 : decode cX0_next 7 = .ok (.iadd, 1) := by decide +kernel
theorem dX0_next_8 : decode cX0_next 8 = .ok (.invokevirtual 43, 3) := by decide +kernel
theorem dX0_next_11 : decode cX0_next 11 = .ok (.ireturn, 1) := by decide +kernel
set_option maxRecDepth 20000 in
theorem ggX0_mark_X0_requirePlace : GoodIn wsX0_mark wsX0_requirePlace := goodIn_ca (goodIn_r _ [5, 6, 7, 8, 9, 10, 4, 11, 12, 13, 23, 24, 25, 26, 27, 28, 29, 30] (by decide +kernel) (by decide +kernel)) (goodIn_sub (fun _ h => List.mem_cons_of_mem _ (List.mem_append_right _ h)) (by decide +kernel))
set_option maxRecDepth 20000 in
theorem gX0_mark_X0_requirePlace : GoodIn wsX0_mark (wsV RX0 39 RX0 yX0_requirePlace wsX0_requirePlace) := goodIn_app (goodIn_of _ (by decide +kernel)) ggX0_mark_X0_requirePlace
set_option maxRecDepth 20000 in
theorem ggX0_mark_X0_markAt : GoodIn wsX0_mark wsX0_markAt := goodIn_r _ [17, 18, 19, 20, 21, 4, 22, 12, 13, 23, 24, 25, 26, 27, 28, 29, 30] (by decide +kernel) (by decide +kernel)
set_option maxRecDepth 20000 in
theorem gX0_mark_X0_markAt : GoodIn wsX0_mark (wsV RX0 67 RX0 yX0_markAt wsX0_markAt) := goodIn_app (goodIn_of _ (by decide +kernel)) ggX0_mark_X0_markAt
theorem dX0_mark_0 : decode cX0_mark 0 = .ok (.aload_n 0, 1) := by decide +kernel
theorem dX0_mark_1 : decode cX0_mark 1 = .ok (.aload_n 0, 1) := by decide +kernel
theorem dX0_mark_2 : decode cX0_mark 2 = .ok (.iload_n 1, 1) := by decide +kernel
theorem dX0_mark_3 : decode cX0_mark 3 = .ok (.invokevirtual 39, 3) := by decide +kernel
theorem dX0_mark_6 : decode cX0_mark 6 = .ok (.invokevirtual 67, 3) := by decide +kernel
theorem dX0_mark_9 : decode cX0_mark 9 = .ok (.ireturn, 1) := by decide +kernel
set_option maxRecDepth 20000 in
theorem ggX0_ahead_X0_requirePlace : GoodIn wsX0_ahead wsX0_requirePlace := goodIn_ca (goodIn_r _ [5, 6, 7, 8, 9, 10, 4, 11, 12, 13, 27, 28, 29, 30, 31, 32, 33, 34] (by decide +kernel) (by decide +kernel)) (goodIn_sub (fun _ h => List.mem_cons_of_mem _ (List.mem_append_right _ h)) (by decide +kernel))
set_option maxRecDepth 20000 in
theorem gX0_ahead_X0_requirePlace : GoodIn wsX0_ahead (wsV RX0 39 RX0 yX0_requirePlace wsX0_requirePlace) := goodIn_app (goodIn_of _ (by decide +kernel)) ggX0_ahead_X0_requirePlace
set_option maxRecDepth 20000 in
theorem ggX0_ahead_X0_markAt : GoodIn wsX0_ahead wsX0_markAt := goodIn_r _ [17, 18, 19, 20, 21, 4, 22, 12, 13, 27, 28, 29, 30, 31, 32, 33, 34] (by decide +kernel) (by decide +kernel)
set_option maxRecDepth 20000 in
theorem gX0_ahead_X0_markAt : GoodIn wsX0_ahead (wsV RX0 67 RX0 yX0_markAt wsX0_markAt) := goodIn_app (goodIn_of _ (by decide +kernel)) ggX0_ahead_X0_markAt
set_option maxRecDepth 20000 in
theorem ggX0_ahead_X0_marksBelow : GoodIn wsX0_ahead wsX0_marksBelow := goodIn_r _ [26, 12, 18, 27, 28, 29, 30, 31, 32, 33, 34] (by decide +kernel) (by decide +kernel)
set_option maxRecDepth 20000 in
theorem gX0_ahead_X0_marksBelow : GoodIn wsX0_ahead (wsV RX0 70 RX0 yX0_marksBelow wsX0_marksBelow) := goodIn_app (goodIn_of _ (by decide +kernel)) ggX0_ahead_X0_marksBelow
theorem dX0_ahead_0 : decode cX0_ahead 0 = .ok (.aload_n 0, 1) := by decide +kernel
theorem dX0_ahead_1 : decode cX0_ahead 1 = .ok (.aload_n 0, 1) := by decide +kernel
theorem dX0_ahead_2 : decode cX0_ahead 2 = .ok (.aload_n 0, 1) := by decide +kernel
theorem dX0_ahead_3 : decode cX0_ahead 3 = .ok (.iload_n 1, 1) := by decide +kernel
theorem dX0_ahead_4 : decode cX0_ahead 4 = .ok (.invokevirtual 39, 3) := by decide +kernel
theorem dX0_ahead_7 : decode cX0_ahead 7 = .ok (.invokevirtual 67, 3) := by decide +kernel
theorem dX0_ahead_10 : decode cX0_ahead 10 = .ok (.invokevirtual 70, 3) := by decide +kernel
theorem dX0_ahead_13 : decode cX0_ahead 13 = .ok (.ireturn, 1) := by decide +kernel
set_option maxRecDepth 20000 in
theorem ggX0_seat_X0_requireReader : GoodIn wsX0_seat wsX0_requireReader := goodIn_ca (goodIn_r _ [5, 6, 7] (by decide +kernel) (by decide +kernel)) (goodIn_sub (fun _ h => List.mem_cons_of_mem _ (List.mem_append_right _ h)) (by decide +kernel))
set_option maxRecDepth 20000 in
theorem gX0_seat_X0_requireReader : GoodIn wsX0_seat (va_wsS RX0 98 yX0_requireReader wsX0_requireReader) := goodIn_app (goodIn_of _ (by decide +kernel)) ggX0_seat_X0_requireReader
set_option maxRecDepth 20000 in
theorem ggX0_seat_X0_requirePlace : GoodIn wsX0_seat wsX0_requirePlace := goodIn_ca (goodIn_r _ [11, 6, 7, 12, 13, 14, 4, 15, 16, 17, 22, 23, 24, 25, 26, 27, 28, 29] (by decide +kernel) (by decide +kernel)) (goodIn_sub (fun _ h => List.mem_cons_of_mem _ (List.mem_append_right _ h)) (by decide +kernel))
set_option maxRecDepth 20000 in
theorem gX0_seat_X0_requirePlace : GoodIn wsX0_seat (wsV RX0 39 RX0 yX0_requirePlace wsX0_requirePlace) := goodIn_app (goodIn_of _ (by decide +kernel)) ggX0_seat_X0_requirePlace
set_option maxRecDepth 20000 in
theorem ggX0_seat_X0_readersAt : GoodIn wsX0_seat wsX0_readersAt := goodIn_r _ [21, 1, 22, 23, 24, 25, 26, 27, 28, 29] (by decide +kernel) (by decide +kernel)
set_option maxRecDepth 20000 in
theorem gX0_seat_X0_readersAt : GoodIn wsX0_seat (wsV RX0 101 RX0 yX0_readersAt wsX0_readersAt) := goodIn_app (goodIn_of _ (by decide +kernel)) ggX0_seat_X0_readersAt
theorem dX0_seat_0 : decode cX0_seat 0 = .ok (.iload_n 1, 1) := by decide +kernel
theorem dX0_seat_1 : decode cX0_seat 1 = .ok (.invokestatic 98, 3) := by decide +kernel
theorem dX0_seat_4 : decode cX0_seat 4 = .ok (.aload_n 0, 1) := by decide +kernel
theorem dX0_seat_5 : decode cX0_seat 5 = .ok (.iload_n 2, 1) := by decide +kernel
theorem dX0_seat_6 : decode cX0_seat 6 = .ok (.invokevirtual 39, 3) := by decide +kernel
theorem dX0_seat_9 : decode cX0_seat 9 = .ok (.pop, 1) := by decide +kernel
theorem dX0_seat_10 : decode cX0_seat 10 = .ok (.aload_n 0, 1) := by decide +kernel
theorem dX0_seat_11 : decode cX0_seat 11 = .ok (.getfield 22, 3) := by decide +kernel
theorem dX0_seat_14 : decode cX0_seat 14 = .ok (.iload_n 1, 1) := by decide +kernel
theorem dX0_seat_15 : decode cX0_seat 15 = .ok (.iload_n 2, 1) := by decide +kernel
theorem dX0_seat_16 : decode cX0_seat 16 = .ok (.iastore, 1) := by decide +kernel
theorem dX0_seat_17 : decode cX0_seat 17 = .ok (.aload_n 0, 1) := by decide +kernel
theorem dX0_seat_18 : decode cX0_seat 18 = .ok (.iload_n 2, 1) := by decide +kernel
theorem dX0_seat_19 : decode cX0_seat 19 = .ok (.invokevirtual 101, 3) := by decide +kernel
theorem dX0_seat_22 : decode cX0_seat 22 = .ok (.ireturn, 1) := by decide +kernel
set_option maxRecDepth 20000 in
theorem ggX0_passDay_X0_placeOf : GoodIn wsX0_passDay wsX0_placeOf := goodIn_r _ [7, 8, 9, 19, 20, 21, 22, 23, 24, 25, 26] (by decide +kernel) (by decide +kernel)
set_option maxRecDepth 20000 in
theorem gX0_passDay_X0_placeOf : GoodIn wsX0_passDay (wsV RX0 64 RX0 yX0_placeOf wsX0_placeOf) := goodIn_app (goodIn_of _ (by decide +kernel)) ggX0_passDay_X0_placeOf
set_option maxRecDepth 20000 in
theorem ggX0_passDay_X0_folderAt : GoodIn wsX0_passDay wsX0_folderAt := goodIn_r _ [13, 9, 14, 15, 16, 6, 17, 8, 18, 19, 20, 21, 22, 23, 24, 25, 26] (by decide +kernel) (by decide +kernel)
set_option maxRecDepth 20000 in
theorem gX0_passDay_X0_folderAt : GoodIn wsX0_passDay (wsV RX0 43 RX0 yX0_folderAt wsX0_folderAt) := goodIn_app (goodIn_of _ (by decide +kernel)) ggX0_passDay_X0_folderAt
theorem dX0_passDay_0 : decode cX0_passDay 0 = .ok (.iconst 0, 1) := by decide +kernel
theorem dX0_passDay_1 : decode cX0_passDay 1 = .ok (.istore_n 1, 1) := by decide +kernel
theorem dX0_passDay_2 : decode cX0_passDay 2 = .ok (.iconst 0, 1) := by decide +kernel
theorem dX0_passDay_3 : decode cX0_passDay 3 = .ok (.istore_n 2, 1) := by decide +kernel
theorem dX0_passDay_4 : decode cX0_passDay 4 = .ok (.iload_n 2, 1) := by decide +kernel
theorem dX0_passDay_5 : decode cX0_passDay 5 = .ok (.iconst 4, 1) := by decide +kernel
theorem dX0_passDay_6 : decode cX0_passDay 6 = .ok (.if_icmp .ge 61, 3) := by decide +kernel
theorem dX0_passDay_9 : decode cX0_passDay 9 = .ok (.aload_n 0, 1) := by decide +kernel
theorem dX0_passDay_10 : decode cX0_passDay 10 = .ok (.aload_n 0, 1) := by decide +kernel
theorem dX0_passDay_11 : decode cX0_passDay 11 = .ok (.getfield 22, 3) := by decide +kernel
theorem dX0_passDay_14 : decode cX0_passDay 14 = .ok (.iload_n 2, 1) := by decide +kernel
theorem dX0_passDay_15 : decode cX0_passDay 15 = .ok (.iaload, 1) := by decide +kernel
theorem dX0_passDay_16 : decode cX0_passDay 16 = .ok (.invokevirtual 64, 3) := by decide +kernel
theorem dX0_passDay_19 : decode cX0_passDay 19 = .ok (.istore_n 3, 1) := by decide +kernel
theorem dX0_passDay_20 : decode cX0_passDay 20 = .ok (.iload_n 3, 1) := by decide +kernel
theorem dX0_passDay_21 : decode cX0_passDay 21 = .ok (.iconst (-1), 1) := by decide +kernel
theorem dX0_passDay_22 : decode cX0_passDay 22 = .ok (.if_icmp .eq 26, 3) := by decide +kernel
theorem dX0_passDay_25 : decode cX0_passDay 25 = .ok (.aload_n 0, 1) := by decide +kernel
theorem dX0_passDay_26 : decode cX0_passDay 26 = .ok (.getfield 25, 3) := by decide +kernel
theorem dX0_passDay_29 : decode cX0_passDay 29 = .ok (.iload_n 2, 1) := by decide +kernel
theorem dX0_passDay_30 : decode cX0_passDay 30 = .ok (.dup2, 1) := by decide +kernel
theorem dX0_passDay_31 : decode cX0_passDay 31 = .ok (.iaload, 1) := by decide +kernel
theorem dX0_passDay_32 : decode cX0_passDay 32 = .ok (.iconst 1, 1) := by decide +kernel
theorem dX0_passDay_33 : decode cX0_passDay 33 = .ok (.iadd, 1) := by decide +kernel
theorem dX0_passDay_34 : decode cX0_passDay 34 = .ok (.iastore, 1) := by decide +kernel
theorem dX0_passDay_35 : decode cX0_passDay 35 = .ok (.aload_n 0, 1) := by decide +kernel
theorem dX0_passDay_36 : decode cX0_passDay 36 = .ok (.getfield 22, 3) := by decide +kernel
theorem dX0_passDay_39 : decode cX0_passDay 39 = .ok (.iload_n 2, 1) := by decide +kernel
theorem dX0_passDay_40 : decode cX0_passDay 40 = .ok (.aload_n 0, 1) := by decide +kernel
theorem dX0_passDay_41 : decode cX0_passDay 41 = .ok (.iload_n 3, 1) := by decide +kernel
theorem dX0_passDay_42 : decode cX0_passDay 42 = .ok (.iconst 1, 1) := by decide +kernel
theorem dX0_passDay_43 : decode cX0_passDay 43 = .ok (.iadd, 1) := by decide +kernel
theorem dX0_passDay_44 : decode cX0_passDay 44 = .ok (.invokevirtual 43, 3) := by decide +kernel
theorem dX0_passDay_47 : decode cX0_passDay 47 = .ok (.iastore, 1) := by decide +kernel
theorem dX0_passDay_48 : decode cX0_passDay 48 = .ok (.aload_n 0, 1) := by decide +kernel
theorem dX0_passDay_49 : decode cX0_passDay 49 = .ok (.getfield 22, 3) := by decide +kernel
theorem dX0_passDay_52 : decode cX0_passDay 52 = .ok (.iload_n 2, 1) := by decide +kernel
theorem dX0_passDay_53 : decode cX0_passDay 53 = .ok (.iaload, 1) := by decide +kernel
theorem dX0_passDay_54 : decode cX0_passDay 54 = .ok (.iconst (-1), 1) := by decide +kernel
theorem dX0_passDay_55 : decode cX0_passDay 55 = .ok (.if_icmp .eq 6, 3) := by decide +kernel
theorem dX0_passDay_58 : decode cX0_passDay 58 = .ok (.iinc 1 1, 3) := by decide +kernel
theorem dX0_passDay_61 : decode cX0_passDay 61 = .ok (.iinc 2 1, 3) := by decide +kernel
theorem dX0_passDay_64 : decode cX0_passDay 64 = .ok (.goto (-60), 3) := by decide +kernel
theorem dX0_passDay_67 : decode cX0_passDay 67 = .ok (.iload_n 1, 1) := by decide +kernel
theorem dX0_passDay_68 : decode cX0_passDay 68 = .ok (.ireturn, 1) := by decide +kernel
set_option maxRecDepth 20000 in
theorem ggX0_at_X0_requireReader : GoodIn wsX0_at wsX0_requireReader := goodIn_ca (goodIn_r _ [5, 6, 7] (by decide +kernel) (by decide +kernel)) (goodIn_sub (fun _ h => List.mem_cons_of_mem _ (List.mem_append_right _ h)) (by decide +kernel))
set_option maxRecDepth 20000 in
theorem gX0_at_X0_requireReader : GoodIn wsX0_at (va_wsS RX0 98 yX0_requireReader wsX0_requireReader) := goodIn_app (goodIn_of _ (by decide +kernel)) ggX0_at_X0_requireReader
theorem dX0_at_0 : decode cX0_at 0 = .ok (.iload_n 1, 1) := by decide +kernel
theorem dX0_at_1 : decode cX0_at 1 = .ok (.invokestatic 98, 3) := by decide +kernel
theorem dX0_at_4 : decode cX0_at 4 = .ok (.aload_n 0, 1) := by decide +kernel
theorem dX0_at_5 : decode cX0_at 5 = .ok (.getfield 22, 3) := by decide +kernel
theorem dX0_at_8 : decode cX0_at 8 = .ok (.iload_n 1, 1) := by decide +kernel
theorem dX0_at_9 : decode cX0_at 9 = .ok (.iaload, 1) := by decide +kernel
theorem dX0_at_10 : decode cX0_at 10 = .ok (.ireturn, 1) := by decide +kernel
set_option maxRecDepth 20000 in
theorem ggX0_read_X0_requireReader : GoodIn wsX0_read wsX0_requireReader := goodIn_ca (goodIn_r _ [5, 6, 7] (by decide +kernel) (by decide +kernel)) (goodIn_sub (fun _ h => List.mem_cons_of_mem _ (List.mem_append_right _ h)) (by decide +kernel))
set_option maxRecDepth 20000 in
theorem gX0_read_X0_requireReader : GoodIn wsX0_read (va_wsS RX0 98 yX0_requireReader wsX0_requireReader) := goodIn_app (goodIn_of _ (by decide +kernel)) ggX0_read_X0_requireReader
theorem dX0_read_0 : decode cX0_read 0 = .ok (.iload_n 1, 1) := by decide +kernel
theorem dX0_read_1 : decode cX0_read 1 = .ok (.invokestatic 98, 3) := by decide +kernel
theorem dX0_read_4 : decode cX0_read 4 = .ok (.aload_n 0, 1) := by decide +kernel
theorem dX0_read_5 : decode cX0_read 5 = .ok (.getfield 25, 3) := by decide +kernel
theorem dX0_read_8 : decode cX0_read 8 = .ok (.iload_n 1, 1) := by decide +kernel
theorem dX0_read_9 : decode cX0_read 9 = .ok (.iaload, 1) := by decide +kernel
theorem dX0_read_10 : decode cX0_read 10 = .ok (.ireturn, 1) := by decide +kernel
set_option maxRecDepth 20000 in
theorem ggX0_requirePlace_X0_placeOf : GoodIn wsX0_requirePlace wsX0_placeOf := goodIn_r _ [7, 8, 9, 10, 11, 12, 13, 14, 15, 16, 17] (by decide +kernel) (by decide +kernel)
set_option maxRecDepth 20000 in
theorem gX0_requirePlace_X0_placeOf : GoodIn wsX0_requirePlace (wsV RX0 64 RX0 yX0_placeOf wsX0_placeOf) := goodIn_app (goodIn_of _ (by decide +kernel)) ggX0_requirePlace_X0_placeOf
theorem dX0_requirePlace_0 : decode cX0_requirePlace 0 = .ok (.aload_n 0, 1) := by decide +kernel
theorem dX0_requirePlace_1 : decode cX0_requirePlace 1 = .ok (.iload_n 1, 1) := by decide +kernel
theorem dX0_requirePlace_2 : decode cX0_requirePlace 2 = .ok (.invokevirtual 64, 3) := by decide +kernel
theorem dX0_requirePlace_5 : decode cX0_requirePlace 5 = .ok (.istore_n 2, 1) := by decide +kernel
theorem dX0_requirePlace_6 : decode cX0_requirePlace 6 = .ok (.iload_n 2, 1) := by decide +kernel
theorem dX0_requirePlace_7 : decode cX0_requirePlace 7 = .ok (.iconst (-1), 1) := by decide +kernel
theorem dX0_requirePlace_8 : decode cX0_requirePlace 8 = .ok (.if_icmp .ne 13, 3) := by decide +kernel
theorem dX0_requirePlace_11 : decode cX0_requirePlace 11 = .ok (.new 79, 3) := by decide +kernel
theorem dX0_requirePlace_14 : decode cX0_requirePlace 14 = .ok (.dup, 1) := by decide +kernel
theorem dX0_requirePlace_15 : decode cX0_requirePlace 15 = .ok (.ldc 104, 2) := by decide +kernel
theorem dX0_requirePlace_17 : decode cX0_requirePlace 17 = .ok (.invokespecial 83, 3) := by decide +kernel
theorem dX0_requirePlace_20 : decode cX0_requirePlace 20 = .ok (.athrow, 1) := by decide +kernel
theorem dX0_requirePlace_21 : decode cX0_requirePlace 21 = .ok (.iload_n 2, 1) := by decide +kernel
theorem dX0_requirePlace_22 : decode cX0_requirePlace 22 = .ok (.ireturn, 1) := by decide +kernel
theorem dX0_requireThatOneMayCome_0 : decode cX0_requireThatOneMayCome 0 = .ok (.aload_n 0, 1) := by decide +kernel
theorem dX0_requireThatOneMayCome_1 : decode cX0_requireThatOneMayCome 1 = .ok (.getfield 106, 3) := by decide +kernel
theorem dX0_requireThatOneMayCome_4 : decode cX0_requireThatOneMayCome 4 = .ok (.sipush 200, 3) := by decide +kernel
theorem dX0_requireThatOneMayCome_7 : decode cX0_requireThatOneMayCome 7 = .ok (.if_icmp .ge 12, 3) := by decide +kernel
theorem dX0_requireThatOneMayCome_10 : decode cX0_requireThatOneMayCome 10 = .ok (.aload_n 0, 1) := by decide +kernel
theorem dX0_requireThatOneMayCome_11 : decode cX0_requireThatOneMayCome 11 = .ok (.getfield 53, 3) := by decide +kernel
theorem dX0_requireThatOneMayCome_14 : decode cX0_requireThatOneMayCome 14 = .ok (.bipush 60, 2) := by decide +kernel
theorem dX0_requireThatOneMayCome_16 : decode cX0_requireThatOneMayCome 16 = .ok (.if_icmp .lt 13, 3) := by decide +kernel
theorem dX0_requireThatOneMayCome_19 : decode cX0_requireThatOneMayCome 19 = .ok (.new 109, 3) := by decide +kernel
theorem dX0_requireThatOneMayCome_22 : decode cX0_requireThatOneMayCome 22 = .ok (.dup, 1) := by decide +kernel
theorem dX0_requireThatOneMayCome_23 : decode cX0_requireThatOneMayCome 23 = .ok (.ldc 111, 2) := by decide +kernel
theorem dX0_requireThatOneMayCome_25 : decode cX0_requireThatOneMayCome 25 = .ok (.invokespecial 113, 3) := by decide +kernel
theorem dX0_requireThatOneMayCome_28 : decode cX0_requireThatOneMayCome 28 = .ok (.athrow, 1) := by decide +kernel
theorem dX0_requireThatOneMayCome_29 : decode cX0_requireThatOneMayCome 29 = .ok (.return_, 1) := by decide +kernel
theorem dX0_requireReader_0 : decode cX0_requireReader 0 = .ok (.iload_n 0, 1) := by decide +kernel
theorem dX0_requireReader_1 : decode cX0_requireReader 1 = .ok (.ifCond .lt 8, 3) := by decide +kernel
theorem dX0_requireReader_4 : decode cX0_requireReader 4 = .ok (.iload_n 0, 1) := by decide +kernel
theorem dX0_requireReader_5 : decode cX0_requireReader 5 = .ok (.iconst 4, 1) := by decide +kernel
theorem dX0_requireReader_6 : decode cX0_requireReader 6 = .ok (.if_icmp .lt 13, 3) := by decide +kernel
theorem dX0_requireReader_9 : decode cX0_requireReader 9 = .ok (.new 79, 3) := by decide +kernel
theorem dX0_requireReader_12 : decode cX0_requireReader 12 = .ok (.dup, 1) := by decide +kernel
theorem dX0_requireReader_13 : decode cX0_requireReader 13 = .ok (.ldc 116, 2) := by decide +kernel
theorem dX0_requireReader_15 : decode cX0_requireReader 15 = .ok (.invokespecial 83, 3) := by decide +kernel
theorem dX0_requireReader_18 : decode cX0_requireReader 18 = .ok (.athrow, 1) := by decide +kernel
theorem dX0_requireReader_19 : decode cX0_requireReader 19 = .ok (.return_, 1) := by decide +kernel
theorem dX0_isPlace_0 : decode cX0_isPlace 0 = .ok (.iload_n 1, 1) := by decide +kernel
theorem dX0_isPlace_1 : decode cX0_isPlace 1 = .ok (.ifCond .lt 33, 3) := by decide +kernel
theorem dX0_isPlace_4 : decode cX0_isPlace 4 = .ok (.iload_n 1, 1) := by decide +kernel
theorem dX0_isPlace_5 : decode cX0_isPlace 5 = .ok (.aload_n 0, 1) := by decide +kernel
theorem dX0_isPlace_6 : decode cX0_isPlace 6 = .ok (.getfield 53, 3) := by decide +kernel
theorem dX0_isPlace_9 : decode cX0_isPlace 9 = .ok (.if_icmp .ge 25, 3) := by decide +kernel
theorem dX0_isPlace_12 : decode cX0_isPlace 12 = .ok (.iload_n 1, 1) := by decide +kernel
theorem dX0_isPlace_13 : decode cX0_isPlace 13 = .ok (.aload_n 0, 1) := by decide +kernel
theorem dX0_isPlace_14 : decode cX0_isPlace 14 = .ok (.getfield 9, 3) := by decide +kernel
theorem dX0_isPlace_17 : decode cX0_isPlace 17 = .ok (.arraylength, 1) := by decide +kernel
theorem dX0_isPlace_18 : decode cX0_isPlace 18 = .ok (.if_icmp .ge 16, 3) := by decide +kernel
theorem dX0_isPlace_21 : decode cX0_isPlace 21 = .ok (.iload_n 1, 1) := by decide +kernel
theorem dX0_isPlace_22 : decode cX0_isPlace 22 = .ok (.aload_n 0, 1) := by decide +kernel
theorem dX0_isPlace_23 : decode cX0_isPlace 23 = .ok (.getfield 13, 3) := by decide +kernel
theorem dX0_isPlace_26 : decode cX0_isPlace 26 = .ok (.arraylength, 1) := by decide +kernel
theorem dX0_isPlace_27 : decode cX0_isPlace 27 = .ok (.if_icmp .ge 7, 3) := by decide +kernel
theorem dX0_isPlace_30 : decode cX0_isPlace 30 = .ok (.iconst 1, 1) := by decide +kernel
theorem dX0_isPlace_31 : decode cX0_isPlace 31 = .ok (.goto 4, 3) := by decide +kernel
theorem dX0_isPlace_34 : decode cX0_isPlace 34 = .ok (.iconst 0, 1) := by decide +kernel
theorem dX0_isPlace_35 : decode cX0_isPlace 35 = .ok (.ireturn, 1) := by decide +kernel
theorem dX0_placeOf_0 : decode cX0_placeOf 0 = .ok (.iconst 0, 1) := by decide +kernel
theorem dX0_placeOf_1 : decode cX0_placeOf 1 = .ok (.istore_n 2, 1) := by decide +kernel
theorem dX0_placeOf_2 : decode cX0_placeOf 2 = .ok (.iload_n 2, 1) := by decide +kernel
theorem dX0_placeOf_3 : decode cX0_placeOf 3 = .ok (.aload_n 0, 1) := by decide +kernel
theorem dX0_placeOf_4 : decode cX0_placeOf 4 = .ok (.getfield 53, 3) := by decide +kernel
theorem dX0_placeOf_7 : decode cX0_placeOf 7 = .ok (.if_icmp .ge 30, 3) := by decide +kernel
theorem dX0_placeOf_10 : decode cX0_placeOf 10 = .ok (.iload_n 2, 1) := by decide +kernel
theorem dX0_placeOf_11 : decode cX0_placeOf 11 = .ok (.aload_n 0, 1) := by decide +kernel
theorem dX0_placeOf_12 : decode cX0_placeOf 12 = .ok (.getfield 9, 3) := by decide +kernel
theorem dX0_placeOf_15 : decode cX0_placeOf 15 = .ok (.arraylength, 1) := by decide +kernel
theorem dX0_placeOf_16 : decode cX0_placeOf 16 = .ok (.if_icmp .ge 21, 3) := by decide +kernel
theorem dX0_placeOf_19 : decode cX0_placeOf 19 = .ok (.aload_n 0, 1) := by decide +kernel
theorem dX0_placeOf_20 : decode cX0_placeOf 20 = .ok (.getfield 9, 3) := by decide +kernel
theorem dX0_placeOf_23 : decode cX0_placeOf 23 = .ok (.iload_n 2, 1) := by decide +kernel
theorem dX0_placeOf_24 : decode cX0_placeOf 24 = .ok (.iaload, 1) := by decide +kernel
theorem dX0_placeOf_25 : decode cX0_placeOf 25 = .ok (.iload_n 1, 1) := by decide +kernel
theorem dX0_placeOf_26 : decode cX0_placeOf 26 = .ok (.if_icmp .ne 5, 3) := by decide +kernel
theorem dX0_placeOf_29 : decode cX0_placeOf 29 = .ok (.iload_n 2, 1) := by decide +kernel
theorem dX0_placeOf_30 : decode cX0_placeOf 30 = .ok (.ireturn, 1) := by decide +kernel
theorem dX0_placeOf_31 : decode cX0_placeOf 31 = .ok (.iinc 2 1, 3) := by decide +kernel
theorem dX0_placeOf_34 : decode cX0_placeOf 34 = .ok (.goto (-32), 3) := by decide +kernel
theorem dX0_placeOf_37 : decode cX0_placeOf 37 = .ok (.iconst (-1), 1) := by decide +kernel
theorem dX0_placeOf_38 : decode cX0_placeOf 38 = .ok (.ireturn, 1) := by decide +kernel
set_option maxRecDepth 20000 in
theorem ggX0_folderAt_X0_isPlace : GoodIn wsX0_folderAt wsX0_isPlace := goodIn_r _ [6, 7, 1, 8, 9, 10, 11, 12, 13, 14, 15, 16] (by decide +kernel) (by decide +kernel)
set_option maxRecDepth 20000 in
theorem gX0_folderAt_X0_isPlace : GoodIn wsX0_folderAt (wsV RX0 118 RX0 yX0_isPlace wsX0_isPlace) := goodIn_app (goodIn_of _ (by decide +kernel)) ggX0_folderAt_X0_isPlace
theorem dX0_folderAt_0 : decode cX0_folderAt 0 = .ok (.aload_n 0, 1) := by decide +kernel
theorem dX0_folderAt_1 : decode cX0_folderAt 1 = .ok (.iload_n 1, 1) := by decide +kernel
theorem dX0_folderAt_2 : decode cX0_folderAt 2 = .ok (.invokevirtual 118, 3) := by decide +kernel
theorem dX0_folderAt_5 : decode cX0_folderAt 5 = .ok (.ifCond .eq 12, 3) := by decide +kernel
theorem dX0_folderAt_8 : decode cX0_folderAt 8 = .ok (.aload_n 0, 1) := by decide +kernel
theorem dX0_folderAt_9 : decode cX0_folderAt 9 = .ok (.getfield 9, 3) := by decide +kernel
theorem dX0_folderAt_12 : decode cX0_folderAt 12 = .ok (.iload_n 1, 1) := by decide +kernel
theorem dX0_folderAt_13 : decode cX0_folderAt 13 = .ok (.iaload, 1) := by decide +kernel
theorem dX0_folderAt_14 : decode cX0_folderAt 14 = .ok (.goto 4, 3) := by decide +kernel
theorem dX0_folderAt_17 : decode cX0_folderAt 17 = .ok (.iconst (-1), 1) := by decide +kernel
theorem dX0_folderAt_18 : decode cX0_folderAt 18 = .ok (.ireturn, 1) := by decide +kernel
set_option maxRecDepth 20000 in
theorem ggX0_markAt_X0_isPlace : GoodIn wsX0_markAt wsX0_isPlace := goodIn_r _ [6, 7, 8, 1, 9, 10, 11, 12, 13, 14, 15, 16] (by decide +kernel) (by decide +kernel)
set_option maxRecDepth 20000 in
theorem gX0_markAt_X0_isPlace : GoodIn wsX0_markAt (wsV RX0 118 RX0 yX0_isPlace wsX0_isPlace) := goodIn_app (goodIn_of _ (by decide +kernel)) ggX0_markAt_X0_isPlace
theorem dX0_markAt_0 : decode cX0_markAt 0 = .ok (.iload_n 1, 1) := by decide +kernel
theorem dX0_markAt_1 : decode cX0_markAt 1 = .ok (.ifCond .ge 5, 3) := by decide +kernel
theorem dX0_markAt_4 : decode cX0_markAt 4 = .ok (.iconst (-1), 1) := by decide +kernel
theorem dX0_markAt_5 : decode cX0_markAt 5 = .ok (.ireturn, 1) := by decide +kernel
theorem dX0_markAt_6 : decode cX0_markAt 6 = .ok (.aload_n 0, 1) := by decide +kernel
theorem dX0_markAt_7 : decode cX0_markAt 7 = .ok (.iload_n 1, 1) := by decide +kernel
theorem dX0_markAt_8 : decode cX0_markAt 8 = .ok (.invokevirtual 118, 3) := by decide +kernel
theorem dX0_markAt_11 : decode cX0_markAt 11 = .ok (.ifCond .eq 12, 3) := by decide +kernel
theorem dX0_markAt_14 : decode cX0_markAt 14 = .ok (.aload_n 0, 1) := by decide +kernel
theorem dX0_markAt_15 : decode cX0_markAt 15 = .ok (.getfield 13, 3) := by decide +kernel
theorem dX0_markAt_18 : decode cX0_markAt 18 = .ok (.iload_n 1, 1) := by decide +kernel
theorem dX0_markAt_19 : decode cX0_markAt 19 = .ok (.iaload, 1) := by decide +kernel
theorem dX0_markAt_20 : decode cX0_markAt 20 = .ok (.goto 6, 3) := by decide +kernel
theorem dX0_markAt_23 : decode cX0_markAt 23 = .ok (.sipush 256, 3) := by decide +kernel
theorem dX0_markAt_26 : decode cX0_markAt 26 = .ok (.ireturn, 1) := by decide +kernel
set_option maxRecDepth 20000 in
theorem ggX0_set_X0_isPlace : GoodIn wsX0_set wsX0_isPlace := goodIn_r _ [7, 8, 1, 2, 9, 10, 11, 12, 13, 14, 15, 16] (by decide +kernel) (by decide +kernel)
set_option maxRecDepth 20000 in
theorem gX0_set_X0_isPlace : GoodIn wsX0_set (wsV RX0 118 RX0 yX0_isPlace wsX0_isPlace) := goodIn_app (goodIn_of _ (by decide +kernel)) ggX0_set_X0_isPlace
theorem dX0_set_0 : decode cX0_set 0 = .ok (.aload_n 0, 1) := by decide +kernel
theorem dX0_set_1 : decode cX0_set 1 = .ok (.iload_n 1, 1) := by decide +kernel
theorem dX0_set_2 : decode cX0_set 2 = .ok (.invokevirtual 118, 3) := by decide +kernel
theorem dX0_set_5 : decode cX0_set 5 = .ok (.ifCond .eq 17, 3) := by decide +kernel
theorem dX0_set_8 : decode cX0_set 8 = .ok (.aload_n 0, 1) := by decide +kernel
theorem dX0_set_9 : decode cX0_set 9 = .ok (.getfield 9, 3) := by decide +kernel
theorem dX0_set_12 : decode cX0_set 12 = .ok (.iload_n 1, 1) := by decide +kernel
theorem dX0_set_13 : decode cX0_set 13 = .ok (.iload_n 2, 1) := by decide +kernel
theorem dX0_set_14 : decode cX0_set 14 = .ok (.iastore, 1) := by decide +kernel
theorem dX0_set_15 : decode cX0_set 15 = .ok (.aload_n 0, 1) := by decide +kernel
theorem dX0_set_16 : decode cX0_set 16 = .ok (.getfield 13, 3) := by decide +kernel
theorem dX0_set_19 : decode cX0_set 19 = .ok (.iload_n 1, 1) := by decide +kernel
theorem dX0_set_20 : decode cX0_set 20 = .ok (.iload_n 3, 1) := by decide +kernel
theorem dX0_set_21 : decode cX0_set 21 = .ok (.iastore, 1) := by decide +kernel
theorem dX0_set_22 : decode cX0_set 22 = .ok (.return_, 1) := by decide +kernel
set_option maxRecDepth 20000 in
theorem ggX0_insertAt_X0_folderAt : GoodIn wsX0_insertAt wsX0_folderAt := goodIn_r _ [6, 7, 8, 9, 10, 5, 11, 1, 12, 21, 22, 23, 24, 25, 26, 27, 28] (by decide +kernel) (by decide +kernel)
set_option maxRecDepth 20000 in
theorem gX0_insertAt_X0_folderAt : GoodIn wsX0_insertAt (wsV RX0 43 RX0 yX0_folderAt wsX0_folderAt) := goodIn_app (goodIn_of _ (by decide +kernel)) ggX0_insertAt_X0_folderAt
set_option maxRecDepth 20000 in
theorem ggX0_insertAt_X0_markAt : GoodIn wsX0_insertAt wsX0_markAt := goodIn_r _ [16, 12, 8, 9, 10, 5, 11, 1, 7, 21, 22, 23, 24, 25, 26, 27, 28] (by decide +kernel) (by decide +kernel)
set_option maxRecDepth 20000 in
theorem gX0_insertAt_X0_markAt : GoodIn wsX0_insertAt (wsV RX0 67 RX0 yX0_markAt wsX0_markAt) := goodIn_app (goodIn_of _ (by decide +kernel)) ggX0_insertAt_X0_markAt
set_option maxRecDepth 20000 in
theorem ggX0_insertAt_X0_set : GoodIn wsX0_insertAt wsX0_set := goodIn_r _ [20, 7, 12, 8, 9, 10, 5, 11, 1, 21, 22, 23, 24, 25, 26, 27, 28] (by decide +kernel) (by decide +kernel)
set_option maxRecDepth 20000 in
theorem gX0_insertAt_X0_set : GoodIn wsX0_insertAt (wsV RX0 122 RX0 yX0_set wsX0_set) := goodIn_app (goodIn_of _ (by decide +kernel)) ggX0_insertAt_X0_set
theorem dX0_insertAt_0 : decode cX0_insertAt 0 = .ok (.iload_n 1, 1) := by decide +kernel
theorem dX0_insertAt_1 : decode cX0_insertAt 1 = .ok (.ifCond .lt 20, 3) := by decide +kernel
theorem dX0_insertAt_4 : decode cX0_insertAt 4 = .ok (.iload_n 1, 1) := by decide +kernel
theorem dX0_insertAt_5 : decode cX0_insertAt 5 = .ok (.aload_n 0, 1) := by decide +kernel
theorem dX0_insertAt_6 : decode cX0_insertAt 6 = .ok (.getfield 53, 3) := by decide +kernel
theorem dX0_insertAt_9 : decode cX0_insertAt 9 = .ok (.if_icmp .gt 12, 3) := by decide +kernel
theorem dX0_insertAt_12 : decode cX0_insertAt 12 = .ok (.aload_n 0, 1) := by decide +kernel
theorem dX0_insertAt_13 : decode cX0_insertAt 13 = .ok (.getfield 53, 3) := by decide +kernel
theorem dX0_insertAt_16 : decode cX0_insertAt 16 = .ok (.bipush 60, 2) := by decide +kernel
theorem dX0_insertAt_18 : decode cX0_insertAt 18 = .ok (.if_icmp .lt 4, 3) := by decide +kernel
theorem dX0_insertAt_21 : decode cX0_insertAt 21 = .ok (.return_, 1) := by decide +kernel
theorem dX0_insertAt_22 : decode cX0_insertAt 22 = .ok (.aload_n 0, 1) := by decide +kernel
theorem dX0_insertAt_23 : decode cX0_insertAt 23 = .ok (.dup, 1) := by decide +kernel
theorem dX0_insertAt_24 : decode cX0_insertAt 24 = .ok (.getfield 53, 3) := by decide +kernel
theorem dX0_insertAt_27 : decode cX0_insertAt 27 = .ok (.iconst 1, 1) := by decide +kernel
theorem dX0_insertAt_28 : decode cX0_insertAt 28 = .ok (.iadd, 1) := by decide +kernel
theorem dX0_insertAt_29 : decode cX0_insertAt 29 = .ok (.putfield 53, 3) := by decide +kernel
theorem dX0_insertAt_32 : decode cX0_insertAt 32 = .ok (.aload_n 0, 1) := by decide +kernel
theorem dX0_insertAt_33 : decode cX0_insertAt 33 = .ok (.getfield 53, 3) := by decide +kernel
theorem dX0_insertAt_36 : decode cX0_insertAt 36 = .ok (.iconst 1, 1) := by decide +kernel
theorem dX0_insertAt_37 : decode cX0_insertAt 37 = .ok (.isub, 1) := by decide +kernel
theorem dX0_insertAt_38 : decode cX0_insertAt 38 = .ok (.istore 4, 2) := by decide +kernel
theorem dX0_insertAt_40 : decode cX0_insertAt 40 = .ok (.iload 4, 2) := by decide +kernel
theorem dX0_insertAt_42 : decode cX0_insertAt 42 = .ok (.iload_n 1, 1) := by decide +kernel
theorem dX0_insertAt_43 : decode cX0_insertAt 43 = .ok (.if_icmp .le 31, 3) := by decide +kernel
theorem dX0_insertAt_46 : decode cX0_insertAt 46 = .ok (.aload_n 0, 1) := by decide +kernel
theorem dX0_insertAt_47 : decode cX0_insertAt 47 = .ok (.iload 4, 2) := by decide +kernel
theorem dX0_insertAt_49 : decode cX0_insertAt 49 = .ok (.aload_n 0, 1) := by decide +kernel
theorem dX0_insertAt_50 : decode cX0_insertAt 50 = .ok (.iload 4, 2) := by decide +kernel
theorem dX0_insertAt_52 : decode cX0_insertAt 52 = .ok (.iconst 1, 1) := by decide +kernel
theorem dX0_insertAt_53 : decode cX0_insertAt 53 = .ok (.isub, 1) := by decide +kernel
theorem dX0_insertAt_54 : decode cX0_insertAt 54 = .ok (.invokevirtual 43, 3) := by decide +kernel
theorem dX0_insertAt_57 : decode cX0_insertAt 57 = .ok (.aload_n 0, 1) := by decide +kernel
theorem dX0_insertAt_58 : decode cX0_insertAt 58 = .ok (.iload 4, 2) := by decide +kernel
theorem dX0_insertAt_60 : decode cX0_insertAt 60 = .ok (.iconst 1, 1) := by decide +kernel
theorem dX0_insertAt_61 : decode cX0_insertAt 61 = .ok (.isub, 1) := by decide +kernel
theorem dX0_insertAt_62 : decode cX0_insertAt 62 = .ok (.invokevirtual 67, 3) := by decide +kernel
theorem dX0_insertAt_65 : decode cX0_insertAt 65 = .ok (.invokevirtual 122, 3) := by decide +kernel
theorem dX0_insertAt_68 : decode cX0_insertAt 68 = .ok (.iinc 4 (-1), 3) := by decide +kernel
theorem dX0_insertAt_71 : decode cX0_insertAt 71 = .ok (.goto (-31), 3) := by decide +kernel
theorem dX0_insertAt_74 : decode cX0_insertAt 74 = .ok (.aload_n 0, 1) := by decide +kernel
theorem dX0_insertAt_75 : decode cX0_insertAt 75 = .ok (.iload_n 1, 1) := by decide +kernel
theorem dX0_insertAt_76 : decode cX0_insertAt 76 = .ok (.iload_n 2, 1) := by decide +kernel
theorem dX0_insertAt_77 : decode cX0_insertAt 77 = .ok (.iload_n 3, 1) := by decide +kernel
theorem dX0_insertAt_78 : decode cX0_insertAt 78 = .ok (.invokevirtual 122, 3) := by decide +kernel
theorem dX0_insertAt_81 : decode cX0_insertAt 81 = .ok (.return_, 1) := by decide +kernel
set_option maxRecDepth 20000 in
theorem ggX0_removeAt_X0_isPlace : GoodIn wsX0_removeAt wsX0_isPlace := goodIn_r _ [6, 1, 7, 8, 21, 22, 23, 24, 25, 26, 27, 28] (by decide +kernel) (by decide +kernel)
set_option maxRecDepth 20000 in
theorem gX0_removeAt_X0_isPlace : GoodIn wsX0_removeAt (wsV RX0 118 RX0 yX0_isPlace wsX0_isPlace) := goodIn_app (goodIn_of _ (by decide +kernel)) ggX0_removeAt_X0_isPlace
set_option maxRecDepth 20000 in
theorem ggX0_removeAt_X0_folderAt : GoodIn wsX0_removeAt wsX0_folderAt := goodIn_r _ [12, 7, 2, 3, 4, 5, 6, 1, 8, 21, 22, 23, 24, 25, 26, 27, 28] (by decide +kernel) (by decide +kernel)
set_option maxRecDepth 20000 in
theorem gX0_removeAt_X0_folderAt : GoodIn wsX0_removeAt (wsV RX0 43 RX0 yX0_folderAt wsX0_folderAt) := goodIn_app (goodIn_of _ (by decide +kernel)) ggX0_removeAt_X0_folderAt
set_option maxRecDepth 20000 in
theorem ggX0_removeAt_X0_markAt : GoodIn wsX0_removeAt wsX0_markAt := goodIn_r _ [16, 8, 2, 3, 4, 5, 6, 1, 7, 21, 22, 23, 24, 25, 26, 27, 28] (by decide +kernel) (by decide +kernel)
set_option maxRecDepth 20000 in
theorem gX0_removeAt_X0_markAt : GoodIn wsX0_removeAt (wsV RX0 67 RX0 yX0_markAt wsX0_markAt) := goodIn_app (goodIn_of _ (by decide +kernel)) ggX0_removeAt_X0_markAt
set_option maxRecDepth 20000 in
theorem ggX0_removeAt_X0_set : GoodIn wsX0_removeAt wsX0_set := goodIn_r _ [20, 7, 8, 2, 3, 4, 5, 6, 1, 21, 22, 23, 24, 25, 26, 27, 28] (by decide +kernel) (by decide +kernel)
set_option maxRecDepth 20000 in
theorem gX0_removeAt_X0_set : GoodIn wsX0_removeAt (wsV RX0 122 RX0 yX0_set wsX0_set) := goodIn_app (goodIn_of _ (by decide +kernel)) ggX0_removeAt_X0_set
theorem dX0_removeAt_0 : decode cX0_removeAt 0 = .ok (.aload_n 0, 1) := by decide +kernel
theorem dX0_removeAt_1 : decode cX0_removeAt 1 = .ok (.iload_n 1, 1) := by decide +kernel
theorem dX0_removeAt_2 : decode cX0_removeAt 2 = .ok (.invokevirtual 118, 3) := by decide +kernel
theorem dX0_removeAt_5 : decode cX0_removeAt 5 = .ok (.ifCond .ne 4, 3) := by decide +kernel
theorem dX0_removeAt_8 : decode cX0_removeAt 8 = .ok (.return_, 1) := by decide +kernel
theorem dX0_removeAt_9 : decode cX0_removeAt 9 = .ok (.iload_n 1, 1) := by decide +kernel
theorem dX0_removeAt_10 : decode cX0_removeAt 10 = .ok (.istore_n 2, 1) := by decide +kernel
theorem dX0_removeAt_11 : decode cX0_removeAt 11 = .ok (.iload_n 2, 1) := by decide +kernel
theorem dX0_removeAt_12 : decode cX0_removeAt 12 = .ok (.aload_n 0, 1) := by decide +kernel
theorem dX0_removeAt_13 : decode cX0_removeAt 13 = .ok (.getfield 53, 3) := by decide +kernel
theorem dX0_removeAt_16 : decode cX0_removeAt 16 = .ok (.iconst 1, 1) := by decide +kernel
theorem dX0_removeAt_17 : decode cX0_removeAt 17 = .ok (.isub, 1) := by decide +kernel
theorem dX0_removeAt_18 : decode cX0_removeAt 18 = .ok (.if_icmp .ge 28, 3) := by decide +kernel
theorem dX0_removeAt_21 : decode cX0_removeAt 21 = .ok (.aload_n 0, 1) := by decide +kernel
theorem dX0_removeAt_22 : decode cX0_removeAt 22 = .ok (.iload_n 2, 1) := by decide +kernel
theorem dX0_removeAt_23 : decode cX0_removeAt 23 = .ok (.aload_n 0, 1) := by decide +kernel
theorem dX0_removeAt_24 : decode cX0_removeAt 24 = .ok (.iload_n 2, 1) := by decide +kernel
theorem dX0_removeAt_25 : decode cX0_removeAt 25 = .ok (.iconst 1, 1) := by decide +kernel
theorem dX0_removeAt_26 : decode cX0_removeAt 26 = .ok (.iadd, 1) := by decide +kernel
theorem dX0_removeAt_27 : decode cX0_removeAt 27 = .ok (.invokevirtual 43, 3) := by decide +kernel
theorem dX0_removeAt_30 : decode cX0_removeAt 30 = .ok (.aload_n 0, 1) := by decide +kernel
theorem dX0_removeAt_31 : decode cX0_removeAt 31 = .ok (.iload_n 2, 1) := by decide +kernel
theorem dX0_removeAt_32 : decode cX0_removeAt 32 = .ok (.iconst 1, 1) := by decide +kernel
theorem dX0_removeAt_33 : decode cX0_removeAt 33 = .ok (.iadd, 1) := by decide +kernel
theorem dX0_removeAt_34 : decode cX0_removeAt 34 = .ok (.invokevirtual 67, 3) := by decide +kernel
theorem dX0_removeAt_37 : decode cX0_removeAt 37 = .ok (.invokevirtual 122, 3) := by decide +kernel
theorem dX0_removeAt_40 : decode cX0_removeAt 40 = .ok (.iinc 2 1, 3) := by decide +kernel
theorem dX0_removeAt_43 : decode cX0_removeAt 43 = .ok (.goto (-32), 3) := by decide +kernel
theorem dX0_removeAt_46 : decode cX0_removeAt 46 = .ok (.aload_n 0, 1) := by decide +kernel
theorem dX0_removeAt_47 : decode cX0_removeAt 47 = .ok (.dup, 1) := by decide +kernel
theorem dX0_removeAt_48 : decode cX0_removeAt 48 = .ok (.getfield 53, 3) := by decide +kernel
theorem dX0_removeAt_51 : decode cX0_removeAt 51 = .ok (.iconst 1, 1) := by decide +kernel
theorem dX0_removeAt_52 : decode cX0_removeAt 52 = .ok (.isub, 1) := by decide +kernel
theorem dX0_removeAt_53 : decode cX0_removeAt 53 = .ok (.putfield 53, 3) := by decide +kernel
theorem dX0_removeAt_56 : decode cX0_removeAt 56 = .ok (.return_, 1) := by decide +kernel
theorem dX0_marksBelow_0 : decode cX0_marksBelow 0 = .ok (.iconst 0, 1) := by decide +kernel
theorem dX0_marksBelow_1 : decode cX0_marksBelow 1 = .ok (.istore_n 2, 1) := by decide +kernel
theorem dX0_marksBelow_2 : decode cX0_marksBelow 2 = .ok (.iload_n 2, 1) := by decide +kernel
theorem dX0_marksBelow_3 : decode cX0_marksBelow 3 = .ok (.aload_n 0, 1) := by decide +kernel
theorem dX0_marksBelow_4 : decode cX0_marksBelow 4 = .ok (.getfield 53, 3) := by decide +kernel
theorem dX0_marksBelow_7 : decode cX0_marksBelow 7 = .ok (.if_icmp .ge 28, 3) := by decide +kernel
theorem dX0_marksBelow_10 : decode cX0_marksBelow 10 = .ok (.iload_n 2, 1) := by decide +kernel
theorem dX0_marksBelow_11 : decode cX0_marksBelow 11 = .ok (.aload_n 0, 1) := by decide +kernel
theorem dX0_marksBelow_12 : decode cX0_marksBelow 12 = .ok (.getfield 13, 3) := by decide +kernel
theorem dX0_marksBelow_15 : decode cX0_marksBelow 15 = .ok (.arraylength, 1) := by decide +kernel
theorem dX0_marksBelow_16 : decode cX0_marksBelow 16 = .ok (.if_icmp .ge 19, 3) := by decide +kernel
theorem dX0_marksBelow_19 : decode cX0_marksBelow 19 = .ok (.aload_n 0, 1) := by decide +kernel
theorem dX0_marksBelow_20 : decode cX0_marksBelow 20 = .ok (.getfield 13, 3) := by decide +kernel
theorem dX0_marksBelow_23 : decode cX0_marksBelow 23 = .ok (.iload_n 2, 1) := by decide +kernel
theorem dX0_marksBelow_24 : decode cX0_marksBelow 24 = .ok (.iaload, 1) := by decide +kernel
theorem dX0_marksBelow_25 : decode cX0_marksBelow 25 = .ok (.iload_n 1, 1) := by decide +kernel
theorem dX0_marksBelow_26 : decode cX0_marksBelow 26 = .ok (.if_icmp .ge 9, 3) := by decide +kernel
theorem dX0_marksBelow_29 : decode cX0_marksBelow 29 = .ok (.iinc 2 1, 3) := by decide +kernel
theorem dX0_marksBelow_32 : decode cX0_marksBelow 32 = .ok (.goto (-30), 3) := by decide +kernel
theorem dX0_marksBelow_35 : decode cX0_marksBelow 35 = .ok (.iload_n 2, 1) := by decide +kernel
theorem dX0_marksBelow_36 : decode cX0_marksBelow 36 = .ok (.ireturn, 1) := by decide +kernel
theorem dX0_nextNumber_0 : decode cX0_nextNumber 0 = .ok (.aload_n 0, 1) := by decide +kernel
theorem dX0_nextNumber_1 : decode cX0_nextNumber 1 = .ok (.getfield 106, 3) := by decide +kernel
theorem dX0_nextNumber_4 : decode cX0_nextNumber 4 = .ok (.istore_n 1, 1) := by decide +kernel
theorem dX0_nextNumber_5 : decode cX0_nextNumber 5 = .ok (.aload_n 0, 1) := by decide +kernel
theorem dX0_nextNumber_6 : decode cX0_nextNumber 6 = .ok (.dup, 1) := by decide +kernel
theorem dX0_nextNumber_7 : decode cX0_nextNumber 7 = .ok (.getfield 106, 3) := by decide +kernel
theorem dX0_nextNumber_10 : decode cX0_nextNumber 10 = .ok (.iconst 1, 1) := by decide +kernel
theorem dX0_nextNumber_11 : decode cX0_nextNumber 11 = .ok (.iadd, 1) := by decide +kernel
theorem dX0_nextNumber_12 : decode cX0_nextNumber 12 = .ok (.putfield 106, 3) := by decide +kernel
theorem dX0_nextNumber_15 : decode cX0_nextNumber 15 = .ok (.iload_n 1, 1) := by decide +kernel
theorem dX0_nextNumber_16 : decode cX0_nextNumber 16 = .ok (.ireturn, 1) := by decide +kernel
set_option maxRecDepth 20000 in
theorem ggX0_putIn_X0_movesByPuttingIn : GoodIn wsX0_putIn wsX0_movesByPuttingIn := goodIn_r _ [6, 7, 8, 9, 5, 10, 11, 12, 13, 14, 15, 16, 17, 18, 19, 20, 21, 22, 23, 24, 25, 26, 27, 28, 29, 30, 31, 32, 33, 34, 35, 36, 37, 38, 39, 40, 41, 42, 43, 44, 45, 46, 47, 48, 49, 50, 51, 52, 53, 54, 55, 77, 78, 79, 80, 81, 82, 83, 84] (by decide +kernel) (by decide +kernel)
set_option maxRecDepth 20000 in
theorem gX0_putIn_X0_movesByPuttingIn : GoodIn wsX0_putIn (wsV RX0 92 RX0 yX0_movesByPuttingIn wsX0_movesByPuttingIn) := goodIn_app (goodIn_of _ (by decide +kernel)) ggX0_putIn_X0_movesByPuttingIn
set_option maxRecDepth 20000 in
theorem ggX0_putIn_X0_hasFreeMark : GoodIn wsX0_putIn wsX0_hasFreeMark := goodIn_r _ [10, 11, 12, 13, 5, 14, 15, 16, 17, 18, 19, 20, 21, 77, 78, 79, 80, 81, 82, 83, 84] (by decide +kernel) (by decide +kernel)
set_option maxRecDepth 20000 in
theorem gX0_putIn_X0_hasFreeMark : GoodIn wsX0_putIn (wsV RX0 126 RX0 yX0_hasFreeMark wsX0_hasFreeMark) := goodIn_app (goodIn_of _ (by decide +kernel)) ggX0_putIn_X0_hasFreeMark
set_option maxRecDepth 20000 in
theorem ggX0_putIn_X0_markAt : GoodIn wsX0_putIn wsX0_markAt := goodIn_r _ [14, 15, 16, 17, 18, 5, 19, 20, 21, 77, 78, 79, 80, 81, 82, 83, 84] (by decide +kernel) (by decide +kernel)
set_option maxRecDepth 20000 in
theorem gX0_putIn_X0_markAt : GoodIn wsX0_putIn (wsV RX0 67 RX0 yX0_markAt wsX0_markAt) := goodIn_app (goodIn_of _ (by decide +kernel)) ggX0_putIn_X0_markAt
set_option maxRecDepth 20000 in
theorem ggX0_putIn_X0_insertAt : GoodIn wsX0_putIn wsX0_insertAt := goodIn_r _ [59, 20, 60, 61, 62, 5, 63, 21, 16, 17, 18, 19, 15, 11, 12, 13, 14, 64, 65, 66, 67, 77, 78, 79, 80, 81, 82, 83, 84] (by decide +kernel) (by decide +kernel)
set_option maxRecDepth 20000 in
theorem gX0_putIn_X0_insertAt : GoodIn wsX0_putIn (wsV RX0 129 RX0 yX0_insertAt wsX0_insertAt) := goodIn_app (goodIn_of _ (by decide +kernel)) ggX0_putIn_X0_insertAt
set_option maxRecDepth 20000 in
theorem ggX0_putIn_X0_spreadOut : GoodIn wsX0_putIn wsX0_spreadOut := goodIn_r _ [71, 22, 23, 24, 5, 25, 26, 27, 28, 29, 30, 31, 32, 33, 34, 11, 12, 13, 14, 15, 16, 17, 18, 19, 20, 21, 35, 36, 37, 38, 39, 40, 41, 42, 43, 44, 45, 46, 47, 48, 49, 56, 57, 58, 59, 60, 61, 62, 63, 64, 65, 66, 67, 50, 51, 52, 53, 54, 55, 72, 73, 74, 75, 76, 77, 78, 79, 80, 81, 82, 83, 84] (by decide +kernel) (by decide +kernel)
set_option maxRecDepth 20000 in
theorem gX0_putIn_X0_spreadOut : GoodIn wsX0_putIn (wsV RX0 132 RX0 yX0_spreadOut wsX0_spreadOut) := goodIn_app (goodIn_of _ (by decide +kernel)) ggX0_putIn_X0_spreadOut
theorem dX0_putIn_0 : decode cX0_putIn 0 = .ok (.aload_n 0, 1) := by decide +kernel
theorem dX0_putIn_1 : decode cX0_putIn 1 = .ok (.dup, 1) := by decide +kernel
theorem dX0_putIn_2 : decode cX0_putIn 2 = .ok (.getfield 95, 3) := by decide +kernel
theorem dX0_putIn_5 : decode cX0_putIn 5 = .ok (.aload_n 0, 1) := by decide +kernel
theorem dX0_putIn_6 : decode cX0_putIn 6 = .ok (.iload_n 2, 1) := by decide +kernel
theorem dX0_putIn_7 : decode cX0_putIn 7 = .ok (.invokevirtual 92, 3) := by decide +kernel
theorem dX0_putIn_10 : decode cX0_putIn 10 = .ok (.iadd, 1) := by decide +kernel
theorem dX0_putIn_11 : decode cX0_putIn 11 = .ok (.putfield 95, 3) := by decide +kernel
theorem dX0_putIn_14 : decode cX0_putIn 14 = .ok (.aload_n 0, 1) := by decide +kernel
theorem dX0_putIn_15 : decode cX0_putIn 15 = .ok (.iload_n 2, 1) := by decide +kernel
theorem dX0_putIn_16 : decode cX0_putIn 16 = .ok (.invokevirtual 126, 3) := by decide +kernel
theorem dX0_putIn_19 : decode cX0_putIn 19 = .ok (.ifCond .eq 27, 3) := by decide +kernel
theorem dX0_putIn_22 : decode cX0_putIn 22 = .ok (.aload_n 0, 1) := by decide +kernel
theorem dX0_putIn_23 : decode cX0_putIn 23 = .ok (.iload_n 2, 1) := by decide +kernel
theorem dX0_putIn_24 : decode cX0_putIn 24 = .ok (.iload_n 1, 1) := by decide +kernel
theorem dX0_putIn_25 : decode cX0_putIn 25 = .ok (.aload_n 0, 1) := by decide +kernel
theorem dX0_putIn_26 : decode cX0_putIn 26 = .ok (.iload_n 2, 1) := by decide +kernel
theorem dX0_putIn_27 : decode cX0_putIn 27 = .ok (.iconst 1, 1) := by decide +kernel
theorem dX0_putIn_28 : decode cX0_putIn 28 = .ok (.isub, 1) := by decide +kernel
theorem dX0_putIn_29 : decode cX0_putIn 29 = .ok (.invokevirtual 67, 3) := by decide +kernel
theorem dX0_putIn_32 : decode cX0_putIn 32 = .ok (.aload_n 0, 1) := by decide +kernel
theorem dX0_putIn_33 : decode cX0_putIn 33 = .ok (.iload_n 2, 1) := by decide +kernel
theorem dX0_putIn_34 : decode cX0_putIn 34 = .ok (.invokevirtual 67, 3) := by decide +kernel
theorem dX0_putIn_37 : decode cX0_putIn 37 = .ok (.iadd, 1) := by decide +kernel
theorem dX0_putIn_38 : decode cX0_putIn 38 = .ok (.iconst 2, 1) := by decide +kernel
theorem dX0_putIn_39 : decode cX0_putIn 39 = .ok (.idiv, 1) := by decide +kernel
theorem dX0_putIn_40 : decode cX0_putIn 40 = .ok (.invokevirtual 129, 3) := by decide +kernel
theorem dX0_putIn_43 : decode cX0_putIn 43 = .ok (.goto 9, 3) := by decide +kernel
theorem dX0_putIn_46 : decode cX0_putIn 46 = .ok (.aload_n 0, 1) := by decide +kernel
theorem dX0_putIn_47 : decode cX0_putIn 47 = .ok (.iload_n 1, 1) := by decide +kernel
theorem dX0_putIn_48 : decode cX0_putIn 48 = .ok (.iload_n 2, 1) := by decide +kernel
theorem dX0_putIn_49 : decode cX0_putIn 49 = .ok (.invokevirtual 132, 3) := by decide +kernel
theorem dX0_putIn_52 : decode cX0_putIn 52 = .ok (.return_, 1) := by decide +kernel
set_option maxRecDepth 20000 in
theorem ggX0_hasFreeMark_X0_markAt : GoodIn wsX0_hasFreeMark wsX0_markAt := goodIn_r _ [5, 6, 7, 8, 9, 4, 10, 11, 12, 13, 14, 15, 16, 17, 18, 19, 20] (by decide +kernel) (by decide +kernel)
set_option maxRecDepth 20000 in
theorem gX0_hasFreeMark_X0_markAt : GoodIn wsX0_hasFreeMark (wsV RX0 67 RX0 yX0_markAt wsX0_markAt) := goodIn_app (goodIn_of _ (by decide +kernel)) ggX0_hasFreeMark_X0_markAt
theorem dX0_hasFreeMark_0 : decode cX0_hasFreeMark 0 = .ok (.aload_n 0, 1) := by decide +kernel
theorem dX0_hasFreeMark_1 : decode cX0_hasFreeMark 1 = .ok (.iload_n 1, 1) := by decide +kernel
theorem dX0_hasFreeMark_2 : decode cX0_hasFreeMark 2 = .ok (.invokevirtual 67, 3) := by decide +kernel
theorem dX0_hasFreeMark_5 : decode cX0_hasFreeMark 5 = .ok (.aload_n 0, 1) := by decide +kernel
theorem dX0_hasFreeMark_6 : decode cX0_hasFreeMark 6 = .ok (.iload_n 1, 1) := by decide +kernel
theorem dX0_hasFreeMark_7 : decode cX0_hasFreeMark 7 = .ok (.iconst 1, 1) := by decide +kernel
theorem dX0_hasFreeMark_8 : decode cX0_hasFreeMark 8 = .ok (.isub, 1) := by decide +kernel
theorem dX0_hasFreeMark_9 : decode cX0_hasFreeMark 9 = .ok (.invokevirtual 67, 3) := by decide +kernel
theorem dX0_hasFreeMark_12 : decode cX0_hasFreeMark 12 = .ok (.isub, 1) := by decide +kernel
theorem dX0_hasFreeMark_13 : decode cX0_hasFreeMark 13 = .ok (.iconst 2, 1) := by decide +kernel
theorem dX0_hasFreeMark_14 : decode cX0_hasFreeMark 14 = .ok (.if_icmp .lt 7, 3) := by decide +kernel
theorem dX0_hasFreeMark_17 : decode cX0_hasFreeMark 17 = .ok (.iconst 1, 1) := by decide +kernel
theorem dX0_hasFreeMark_18 : decode cX0_hasFreeMark 18 = .ok (.goto 4, 3) := by decide +kernel
theorem dX0_hasFreeMark_21 : decode cX0_hasFreeMark 21 = .ok (.iconst 0, 1) := by decide +kernel
theorem dX0_hasFreeMark_22 : decode cX0_hasFreeMark 22 = .ok (.ireturn, 1) := by decide +kernel
set_option maxRecDepth 20000 in
theorem ggX0_spreadOut_X0_levelToSpread : GoodIn wsX0_spreadOut wsX0_levelToSpread := goodIn_r _ [5, 6, 7, 8, 9, 4, 10, 11, 12, 13, 14, 15, 16, 17, 18, 19, 20, 21, 22, 23, 24, 25, 26, 27, 28, 29, 30, 31, 32, 33, 34, 35, 36, 37, 38, 39, 40, 64, 65, 66, 67, 68, 69, 70, 71] (by decide +kernel) (by decide +kernel)
set_option maxRecDepth 20000 in
theorem gX0_spreadOut_X0_levelToSpread : GoodIn wsX0_spreadOut (wsV RX0 135 RX0 yX0_levelToSpread wsX0_levelToSpread) := goodIn_app (goodIn_of _ (by decide +kernel)) ggX0_spreadOut_X0_levelToSpread
set_option maxRecDepth 20000 in
theorem ggX0_spreadOut_X0_shelfToSpread : GoodIn wsX0_spreadOut wsX0_shelfToSpread := goodIn_r _ [10, 11, 12, 13, 14, 15, 16, 17, 4, 18, 19, 20, 21, 22, 23, 24, 25, 64, 65, 66, 67, 68, 69, 70, 71] (by decide +kernel) (by decide +kernel)
set_option maxRecDepth 20000 in
theorem gX0_spreadOut_X0_shelfToSpread : GoodIn wsX0_spreadOut (wsV RX0 138 RX0 yX0_shelfToSpread wsX0_shelfToSpread) := goodIn_app (goodIn_of _ (by decide +kernel)) ggX0_spreadOut_X0_shelfToSpread
set_option maxRecDepth 20000 in
theorem ggX0_spreadOut_X0_firstMark : GoodIn wsX0_spreadOut wsX0_firstMark := goodIn_r _ [36] (by decide +kernel) (by decide +kernel)
set_option maxRecDepth 20000 in
theorem gX0_spreadOut_X0_firstMark : GoodIn wsX0_spreadOut (va_wsS RX0 141 yX0_firstMark wsX0_firstMark) := goodIn_app (goodIn_of _ (by decide +kernel)) ggX0_spreadOut_X0_firstMark
set_option maxRecDepth 20000 in
theorem ggX0_spreadOut_X0_marksBelow : GoodIn wsX0_spreadOut wsX0_marksBelow := goodIn_r _ [40, 24, 19, 64, 65, 66, 67, 68, 69, 70, 71] (by decide +kernel) (by decide +kernel)
set_option maxRecDepth 20000 in
theorem gX0_spreadOut_X0_marksBelow : GoodIn wsX0_spreadOut (wsV RX0 70 RX0 yX0_marksBelow wsX0_marksBelow) := goodIn_app (goodIn_of _ (by decide +kernel)) ggX0_spreadOut_X0_marksBelow
set_option maxRecDepth 20000 in
theorem ggX0_spreadOut_X0_foldersOn : GoodIn wsX0_spreadOut wsX0_foldersOn := goodIn_r _ [33, 34, 35, 4, 36, 37, 38, 39, 40, 24, 19, 64, 65, 66, 67, 68, 69, 70, 71] (by decide +kernel) (by decide +kernel)
set_option maxRecDepth 20000 in
theorem gX0_spreadOut_X0_foldersOn : GoodIn wsX0_spreadOut (wsV RX0 84 RX0 yX0_foldersOn wsX0_foldersOn) := goodIn_app (goodIn_of _ (by decide +kernel)) ggX0_spreadOut_X0_foldersOn
set_option maxRecDepth 20000 in
theorem ggX0_spreadOut_X0_insertAt : GoodIn wsX0_spreadOut wsX0_insertAt := goodIn_r _ [44, 24, 45, 46, 47, 4, 48, 25, 20, 21, 22, 23, 19, 15, 16, 17, 18, 49, 50, 51, 52, 64, 65, 66, 67, 68, 69, 70, 71] (by decide +kernel) (by decide +kernel)
set_option maxRecDepth 20000 in
theorem gX0_spreadOut_X0_insertAt : GoodIn wsX0_spreadOut (wsV RX0 129 RX0 yX0_insertAt wsX0_insertAt) := goodIn_app (goodIn_of _ (by decide +kernel)) ggX0_spreadOut_X0_insertAt
set_option maxRecDepth 20000 in
theorem ggX0_spreadOut_X0_folderAt : GoodIn wsX0_spreadOut wsX0_folderAt := goodIn_r _ [48, 25, 20, 21, 22, 4, 23, 24, 19, 64, 65, 66, 67, 68, 69, 70, 71] (by decide +kernel) (by decide +kernel)
set_option maxRecDepth 20000 in
theorem gX0_spreadOut_X0_folderAt : GoodIn wsX0_spreadOut (wsV RX0 43 RX0 yX0_folderAt wsX0_folderAt) := goodIn_app (goodIn_of _ (by decide +kernel)) ggX0_spreadOut_X0_folderAt
set_option maxRecDepth 20000 in
theorem ggX0_spreadOut_X0_spreadMark : GoodIn wsX0_spreadOut wsX0_spreadMark := goodIn_r _ [55, 56, 57, 4, 58, 34, 35, 36] (by decide +kernel) (by decide +kernel)
set_option maxRecDepth 20000 in
theorem gX0_spreadOut_X0_spreadMark : GoodIn wsX0_spreadOut (va_wsS RX0 144 yX0_spreadMark wsX0_spreadMark) := goodIn_app (goodIn_of _ (by decide +kernel)) ggX0_spreadOut_X0_spreadMark
set_option maxRecDepth 20000 in
theorem ggX0_spreadOut_X0_set : GoodIn wsX0_spreadOut wsX0_set := goodIn_r _ [52, 25, 19, 20, 21, 22, 4, 23, 24, 64, 65, 66, 67, 68, 69, 70, 71] (by decide +kernel) (by decide +kernel)
set_option maxRecDepth 20000 in
theorem gX0_spreadOut_X0_set : GoodIn wsX0_spreadOut (wsV RX0 122 RX0 yX0_set wsX0_set) := goodIn_app (goodIn_of _ (by decide +kernel)) ggX0_spreadOut_X0_set
set_option maxRecDepth 20000 in
theorem ggX0_spreadOut_X0_countSpread : GoodIn wsX0_spreadOut wsX0_countSpread := goodIn_r _ [62, 63, 64, 65, 66, 67, 68, 69, 70, 71] (by decide +kernel) (by decide +kernel)
set_option maxRecDepth 20000 in
theorem gX0_spreadOut_X0_countSpread : GoodIn wsX0_spreadOut (wsV RX0 148 RX0 yX0_countSpread wsX0_countSpread) := goodIn_app (goodIn_of _ (by decide +kernel)) ggX0_spreadOut_X0_countSpread
theorem dX0_spreadOut_0 : decode cX0_spreadOut 0 = .ok (.aload_n 0, 1) := by decide +kernel
theorem dX0_spreadOut_1 : decode cX0_spreadOut 1 = .ok (.iload_n 2, 1) := by decide +kernel
theorem dX0_spreadOut_2 : decode cX0_spreadOut 2 = .ok (.invokevirtual 135, 3) := by decide +kernel
theorem dX0_spreadOut_5 : decode cX0_spreadOut 5 = .ok (.istore_n 3, 1) := by decide +kernel
theorem dX0_spreadOut_6 : decode cX0_spreadOut 6 = .ok (.aload_n 0, 1) := by decide +kernel
theorem dX0_spreadOut_7 : decode cX0_spreadOut 7 = .ok (.iload_n 2, 1) := by decide +kernel
theorem dX0_spreadOut_8 : decode cX0_spreadOut 8 = .ok (.iload_n 3, 1) := by decide +kernel
theorem dX0_spreadOut_9 : decode cX0_spreadOut 9 = .ok (.invokevirtual 138, 3) := by decide +kernel
theorem dX0_spreadOut_12 : decode cX0_spreadOut 12 = .ok (.istore 4, 2) := by decide +kernel
theorem dX0_spreadOut_14 : decode cX0_spreadOut 14 = .ok (.aload_n 0, 1) := by decide +kernel
theorem dX0_spreadOut_15 : decode cX0_spreadOut 15 = .ok (.iload_n 3, 1) := by decide +kernel
theorem dX0_spreadOut_16 : decode cX0_spreadOut 16 = .ok (.iload 4, 2) := by decide +kernel
theorem dX0_spreadOut_18 : decode cX0_spreadOut 18 = .ok (.invokestatic 141, 3) := by decide +kernel
theorem dX0_spreadOut_21 : decode cX0_spreadOut 21 = .ok (.invokevirtual 70, 3) := by decide +kernel
theorem dX0_spreadOut_24 : decode cX0_spreadOut 24 = .ok (.istore 5, 2) := by decide +kernel
theorem dX0_spreadOut_26 : decode cX0_spreadOut 26 = .ok (.aload_n 0, 1) := by decide +kernel
theorem dX0_spreadOut_27 : decode cX0_spreadOut 27 = .ok (.iload_n 3, 1) := by decide +kernel
theorem dX0_spreadOut_28 : decode cX0_spreadOut 28 = .ok (.iload 4, 2) := by decide +kernel
theorem dX0_spreadOut_30 : decode cX0_spreadOut 30 = .ok (.invokevirtual 84, 3) := by decide +kernel
theorem dX0_spreadOut_33 : decode cX0_spreadOut 33 = .ok (.iconst 1, 1) := by decide +kernel
theorem dX0_spreadOut_34 : decode cX0_spreadOut 34 = .ok (.iadd, 1) := by decide +kernel
theorem dX0_spreadOut_35 : decode cX0_spreadOut 35 = .ok (.istore 6, 2) := by decide +kernel
theorem dX0_spreadOut_37 : decode cX0_spreadOut 37 = .ok (.aload_n 0, 1) := by decide +kernel
theorem dX0_spreadOut_38 : decode cX0_spreadOut 38 = .ok (.iload_n 2, 1) := by decide +kernel
theorem dX0_spreadOut_39 : decode cX0_spreadOut 39 = .ok (.iload_n 1, 1) := by decide +kernel
theorem dX0_spreadOut_40 : decode cX0_spreadOut 40 = .ok (.iload_n 3, 1) := by decide +kernel
theorem dX0_spreadOut_41 : decode cX0_spreadOut 41 = .ok (.iload 4, 2) := by decide +kernel
theorem dX0_spreadOut_43 : decode cX0_spreadOut 43 = .ok (.invokestatic 141, 3) := by decide +kernel
theorem dX0_spreadOut_46 : decode cX0_spreadOut 46 = .ok (.invokevirtual 129, 3) := by decide +kernel
theorem dX0_spreadOut_49 : decode cX0_spreadOut 49 = .ok (.iconst 0, 1) := by decide +kernel
theorem dX0_spreadOut_50 : decode cX0_spreadOut 50 = .ok (.istore 7, 2) := by decide +kernel
theorem dX0_spreadOut_52 : decode cX0_spreadOut 52 = .ok (.iload 7, 2) := by decide +kernel
theorem dX0_spreadOut_54 : decode cX0_spreadOut 54 = .ok (.iload 6, 2) := by decide +kernel
theorem dX0_spreadOut_56 : decode cX0_spreadOut 56 = .ok (.if_icmp .ge 37, 3) := by decide +kernel
theorem dX0_spreadOut_59 : decode cX0_spreadOut 59 = .ok (.aload_n 0, 1) := by decide +kernel
theorem dX0_spreadOut_60 : decode cX0_spreadOut 60 = .ok (.iload 5, 2) := by decide +kernel
theorem dX0_spreadOut_62 : decode cX0_spreadOut 62 = .ok (.iload 7, 2) := by decide +kernel
theorem dX0_spreadOut_64 : decode cX0_spreadOut 64 = .ok (.iadd, 1) := by decide +kernel
theorem dX0_spreadOut_65 : decode cX0_spreadOut 65 = .ok (.aload_n 0, 1) := by decide +kernel
theorem dX0_spreadOut_66 : decode cX0_spreadOut 66 = .ok (.iload 5, 2) := by decide +kernel
theorem dX0_spreadOut_68 : decode cX0_spreadOut 68 = .ok (.iload 7, 2) := by decide +kernel
theorem dX0_spreadOut_70 : decode cX0_spreadOut 70 = .ok (.iadd, 1) := by decide +kernel
theorem dX0_spreadOut_71 : decode cX0_spreadOut 71 = .ok (.invokevirtual 43, 3) := by decide +kernel
theorem dX0_spreadOut_74 : decode cX0_spreadOut 74 = .ok (.iload_n 3, 1) := by decide +kernel
theorem dX0_spreadOut_75 : decode cX0_spreadOut 75 = .ok (.iload 4, 2) := by decide +kernel
theorem dX0_spreadOut_77 : decode cX0_spreadOut 77 = .ok (.iload 7, 2) := by decide +kernel
theorem dX0_spreadOut_79 : decode cX0_spreadOut 79 = .ok (.iload 6, 2) := by decide +kernel
theorem dX0_spreadOut_81 : decode cX0_spreadOut 81 = .ok (.invokestatic 144, 3) := by decide +kernel
theorem dX0_spreadOut_84 : decode cX0_spreadOut 84 = .ok (.invokevirtual 122, 3) := by decide +kernel
theorem dX0_spreadOut_87 : decode cX0_spreadOut 87 = .ok (.iinc 7 1, 3) := by decide +kernel
theorem dX0_spreadOut_90 : decode cX0_spreadOut 90 = .ok (.goto (-38), 3) := by decide +kernel
theorem dX0_spreadOut_93 : decode cX0_spreadOut 93 = .ok (.aload_n 0, 1) := by decide +kernel
theorem dX0_spreadOut_94 : decode cX0_spreadOut 94 = .ok (.iload_n 3, 1) := by decide +kernel
theorem dX0_spreadOut_95 : decode cX0_spreadOut 95 = .ok (.invokevirtual 148, 3) := by decide +kernel
theorem dX0_spreadOut_98 : decode cX0_spreadOut 98 = .ok (.return_, 1) := by decide +kernel
set_option maxRecDepth 20000 in
theorem ggX0_movesByPuttingIn_X0_hasFreeMark : GoodIn wsX0_movesByPuttingIn wsX0_hasFreeMark := goodIn_r _ [5, 6, 7, 8, 4, 9, 10, 11, 12, 13, 14, 15, 16, 51, 52, 53, 54, 55, 56, 57, 58] (by decide +kernel) (by decide +kernel)
set_option maxRecDepth 20000 in
theorem gX0_movesByPuttingIn_X0_hasFreeMark : GoodIn wsX0_movesByPuttingIn (wsV RX0 126 RX0 yX0_hasFreeMark wsX0_hasFreeMark) := goodIn_app (goodIn_of _ (by decide +kernel)) ggX0_movesByPuttingIn_X0_hasFreeMark
set_option maxRecDepth 20000 in
theorem ggX0_movesByPuttingIn_X0_levelToSpread : GoodIn wsX0_movesByPuttingIn wsX0_levelToSpread := goodIn_r _ [20, 21, 22, 23, 24, 4, 25, 26, 27, 28, 29, 6, 7, 8, 9, 10, 11, 12, 13, 14, 15, 16, 30, 31, 32, 33, 34, 35, 36, 37, 38, 39, 40, 41, 42, 43, 44, 51, 52, 53, 54, 55, 56, 57, 58] (by decide +kernel) (by decide +kernel)
set_option maxRecDepth 20000 in
theorem gX0_movesByPuttingIn_X0_levelToSpread : GoodIn wsX0_movesByPuttingIn (wsV RX0 135 RX0 yX0_levelToSpread wsX0_levelToSpread) := goodIn_app (goodIn_of _ (by decide +kernel)) ggX0_movesByPuttingIn_X0_levelToSpread
set_option maxRecDepth 20000 in
theorem ggX0_movesByPuttingIn_X0_shelfToSpread : GoodIn wsX0_movesByPuttingIn wsX0_shelfToSpread := goodIn_r _ [25, 26, 27, 28, 29, 6, 7, 8, 4, 9, 10, 11, 12, 13, 14, 15, 16, 51, 52, 53, 54, 55, 56, 57, 58] (by decide +kernel) (by decide +kernel)
set_option maxRecDepth 20000 in
theorem gX0_movesByPuttingIn_X0_shelfToSpread : GoodIn wsX0_movesByPuttingIn (wsV RX0 138 RX0 yX0_shelfToSpread wsX0_shelfToSpread) := goodIn_app (goodIn_of _ (by decide +kernel)) ggX0_movesByPuttingIn_X0_shelfToSpread
set_option maxRecDepth 20000 in
theorem ggX0_movesByPuttingIn_X0_firstMark : GoodIn wsX0_movesByPuttingIn wsX0_firstMark := goodIn_r _ [40] (by decide +kernel) (by decide +kernel)
set_option maxRecDepth 20000 in
theorem gX0_movesByPuttingIn_X0_firstMark : GoodIn wsX0_movesByPuttingIn (va_wsS RX0 141 yX0_firstMark wsX0_firstMark) := goodIn_app (goodIn_of _ (by decide +kernel)) ggX0_movesByPuttingIn_X0_firstMark
set_option maxRecDepth 20000 in
theorem ggX0_movesByPuttingIn_X0_marksBelow : GoodIn wsX0_movesByPuttingIn wsX0_marksBelow := goodIn_r _ [44, 15, 10, 51, 52, 53, 54, 55, 56, 57, 58] (by decide +kernel) (by decide +kernel)
set_option maxRecDepth 20000 in
theorem gX0_movesByPuttingIn_X0_marksBelow : GoodIn wsX0_movesByPuttingIn (wsV RX0 70 RX0 yX0_marksBelow wsX0_marksBelow) := goodIn_app (goodIn_of _ (by decide +kernel)) ggX0_movesByPuttingIn_X0_marksBelow
set_option maxRecDepth 20000 in
theorem ggX0_movesByPuttingIn_X0_foldersOn : GoodIn wsX0_movesByPuttingIn wsX0_foldersOn := goodIn_r _ [37, 38, 39, 4, 40, 41, 42, 43, 44, 15, 10, 51, 52, 53, 54, 55, 56, 57, 58] (by decide +kernel) (by decide +kernel)
set_option maxRecDepth 20000 in
theorem gX0_movesByPuttingIn_X0_foldersOn : GoodIn wsX0_movesByPuttingIn (wsV RX0 84 RX0 yX0_foldersOn wsX0_foldersOn) := goodIn_app (goodIn_of _ (by decide +kernel)) ggX0_movesByPuttingIn_X0_foldersOn
set_option maxRecDepth 20000 in
theorem ggX0_movesByPuttingIn_X0_markAt : GoodIn wsX0_movesByPuttingIn wsX0_markAt := goodIn_r _ [9, 10, 11, 12, 13, 4, 14, 15, 16, 51, 52, 53, 54, 55, 56, 57, 58] (by decide +kernel) (by decide +kernel)
set_option maxRecDepth 20000 in
theorem gX0_movesByPuttingIn_X0_markAt : GoodIn wsX0_movesByPuttingIn (wsV RX0 67 RX0 yX0_markAt wsX0_markAt) := goodIn_app (goodIn_of _ (by decide +kernel)) ggX0_movesByPuttingIn_X0_markAt
set_option maxRecDepth 20000 in
theorem ggX0_movesByPuttingIn_X0_spreadMark : GoodIn wsX0_movesByPuttingIn wsX0_spreadMark := goodIn_r _ [47, 48, 49, 4, 50, 38, 39, 40] (by decide +kernel) (by decide +kernel)
set_option maxRecDepth 20000 in
theorem gX0_movesByPuttingIn_X0_spreadMark : GoodIn wsX0_movesByPuttingIn (va_wsS RX0 144 yX0_spreadMark wsX0_spreadMark) := goodIn_app (goodIn_of _ (by decide +kernel)) ggX0_movesByPuttingIn_X0_spreadMark
theorem dX0_movesByPuttingIn_0 : decode cX0_movesByPuttingIn 0 = .ok (.aload_n 0, 1) := by decide +kernel
theorem dX0_movesByPuttingIn_1 : decode cX0_movesByPuttingIn 1 = .ok (.iload_n 1, 1) := by decide +kernel
theorem dX0_movesByPuttingIn_2 : decode cX0_movesByPuttingIn 2 = .ok (.invokevirtual 126, 3) := by decide +kernel
theorem dX0_movesByPuttingIn_5 : decode cX0_movesByPuttingIn 5 = .ok (.ifCond .eq 5, 3) := by decide +kernel
theorem dX0_movesByPuttingIn_8 : decode cX0_movesByPuttingIn 8 = .ok (.iconst 0, 1) := by decide +kernel
theorem dX0_movesByPuttingIn_9 : decode cX0_movesByPuttingIn 9 = .ok (.ireturn, 1) := by decide +kernel
theorem dX0_movesByPuttingIn_10 : decode cX0_movesByPuttingIn 10 = .ok (.aload_n 0, 1) := by decide +kernel
theorem dX0_movesByPuttingIn_11 : decode cX0_movesByPuttingIn 11 = .ok (.iload_n 1, 1) := by decide +kernel
theorem dX0_movesByPuttingIn_12 : decode cX0_movesByPuttingIn 12 = .ok (.invokevirtual 135, 3) := by decide +kernel
theorem dX0_movesByPuttingIn_15 : decode cX0_movesByPuttingIn 15 = .ok (.istore_n 2, 1) := by decide +kernel
theorem dX0_movesByPuttingIn_16 : decode cX0_movesByPuttingIn 16 = .ok (.aload_n 0, 1) := by decide +kernel
theorem dX0_movesByPuttingIn_17 : decode cX0_movesByPuttingIn 17 = .ok (.iload_n 1, 1) := by decide +kernel
theorem dX0_movesByPuttingIn_18 : decode cX0_movesByPuttingIn 18 = .ok (.iload_n 2, 1) := by decide +kernel
theorem dX0_movesByPuttingIn_19 : decode cX0_movesByPuttingIn 19 = .ok (.invokevirtual 138, 3) := by decide +kernel
theorem dX0_movesByPuttingIn_22 : decode cX0_movesByPuttingIn 22 = .ok (.istore_n 3, 1) := by decide +kernel
theorem dX0_movesByPuttingIn_23 : decode cX0_movesByPuttingIn 23 = .ok (.aload_n 0, 1) := by decide +kernel
theorem dX0_movesByPuttingIn_24 : decode cX0_movesByPuttingIn 24 = .ok (.iload_n 2, 1) := by decide +kernel
theorem dX0_movesByPuttingIn_25 : decode cX0_movesByPuttingIn 25 = .ok (.iload_n 3, 1) := by decide +kernel
theorem dX0_movesByPuttingIn_26 : decode cX0_movesByPuttingIn 26 = .ok (.invokestatic 141, 3) := by decide +kernel
theorem dX0_movesByPuttingIn_29 : decode cX0_movesByPuttingIn 29 = .ok (.invokevirtual 70, 3) := by decide +kernel
theorem dX0_movesByPuttingIn_32 : decode cX0_movesByPuttingIn 32 = .ok (.istore 4, 2) := by decide +kernel
theorem dX0_movesByPuttingIn_34 : decode cX0_movesByPuttingIn 34 = .ok (.aload_n 0, 1) := by decide +kernel
theorem dX0_movesByPuttingIn_35 : decode cX0_movesByPuttingIn 35 = .ok (.iload_n 2, 1) := by decide +kernel
theorem dX0_movesByPuttingIn_36 : decode cX0_movesByPuttingIn 36 = .ok (.iload_n 3, 1) := by decide +kernel
theorem dX0_movesByPuttingIn_37 : decode cX0_movesByPuttingIn 37 = .ok (.invokevirtual 84, 3) := by decide +kernel
theorem dX0_movesByPuttingIn_40 : decode cX0_movesByPuttingIn 40 = .ok (.istore 5, 2) := by decide +kernel
theorem dX0_movesByPuttingIn_42 : decode cX0_movesByPuttingIn 42 = .ok (.iconst 0, 1) := by decide +kernel
theorem dX0_movesByPuttingIn_43 : decode cX0_movesByPuttingIn 43 = .ok (.istore 6, 2) := by decide +kernel
theorem dX0_movesByPuttingIn_45 : decode cX0_movesByPuttingIn 45 = .ok (.iload 4, 2) := by decide +kernel
theorem dX0_movesByPuttingIn_47 : decode cX0_movesByPuttingIn 47 = .ok (.istore 7, 2) := by decide +kernel
theorem dX0_movesByPuttingIn_49 : decode cX0_movesByPuttingIn 49 = .ok (.iload 7, 2) := by decide +kernel
theorem dX0_movesByPuttingIn_51 : decode cX0_movesByPuttingIn 51 = .ok (.iload 4, 2) := by decide +kernel
theorem dX0_movesByPuttingIn_53 : decode cX0_movesByPuttingIn 53 = .ok (.iload 5, 2) := by decide +kernel
theorem dX0_movesByPuttingIn_55 : decode cX0_movesByPuttingIn 55 = .ok (.iadd, 1) := by decide +kernel
theorem dX0_movesByPuttingIn_56 : decode cX0_movesByPuttingIn 56 = .ok (.if_icmp .ge 52, 3) := by decide +kernel
theorem dX0_movesByPuttingIn_59 : decode cX0_movesByPuttingIn 59 = .ok (.iload 7, 2) := by decide +kernel
theorem dX0_movesByPuttingIn_61 : decode cX0_movesByPuttingIn 61 = .ok (.iload_n 1, 1) := by decide +kernel
theorem dX0_movesByPuttingIn_62 : decode cX0_movesByPuttingIn 62 = .ok (.if_icmp .ge 8, 3) := by decide +kernel
theorem dX0_movesByPuttingIn_65 : decode cX0_movesByPuttingIn 65 = .ok (.iload 7, 2) := by decide +kernel
theorem dX0_movesByPuttingIn_67 : decode cX0_movesByPuttingIn 67 = .ok (.goto 7, 3) := by decide +kernel
theorem dX0_movesByPuttingIn_70 : decode cX0_movesByPuttingIn 70 = .ok (.iload 7, 2) := by decide +kernel
theorem dX0_movesByPuttingIn_72 : decode cX0_movesByPuttingIn 72 = .ok (.iconst 1, 1) := by decide +kernel
theorem dX0_movesByPuttingIn_73 : decode cX0_movesByPuttingIn 73 = .ok (.iadd, 1) := by decide +kernel
theorem dX0_movesByPuttingIn_74 : decode cX0_movesByPuttingIn 74 = .ok (.iload 4, 2) := by decide +kernel
theorem dX0_movesByPuttingIn_76 : decode cX0_movesByPuttingIn 76 = .ok (.isub, 1) := by decide +kernel
theorem dX0_movesByPuttingIn_77 : decode cX0_movesByPuttingIn 77 = .ok (.istore 8, 2) := by decide +kernel
theorem dX0_movesByPuttingIn_79 : decode cX0_movesByPuttingIn 79 = .ok (.aload_n 0, 1) := by decide +kernel
theorem dX0_movesByPuttingIn_80 : decode cX0_movesByPuttingIn 80 = .ok (.iload 7, 2) := by decide +kernel
theorem dX0_movesByPuttingIn_82 : decode cX0_movesByPuttingIn 82 = .ok (.invokevirtual 67, 3) := by decide +kernel
theorem dX0_movesByPuttingIn_85 : decode cX0_movesByPuttingIn 85 = .ok (.iload_n 2, 1) := by decide +kernel
theorem dX0_movesByPuttingIn_86 : decode cX0_movesByPuttingIn 86 = .ok (.iload_n 3, 1) := by decide +kernel
theorem dX0_movesByPuttingIn_87 : decode cX0_movesByPuttingIn 87 = .ok (.iload 8, 2) := by decide +kernel
theorem dX0_movesByPuttingIn_89 : decode cX0_movesByPuttingIn 89 = .ok (.iload 5, 2) := by decide +kernel
theorem dX0_movesByPuttingIn_91 : decode cX0_movesByPuttingIn 91 = .ok (.iconst 1, 1) := by decide +kernel
theorem dX0_movesByPuttingIn_92 : decode cX0_movesByPuttingIn 92 = .ok (.iadd, 1) := by decide +kernel
theorem dX0_movesByPuttingIn_93 : decode cX0_movesByPuttingIn 93 = .ok (.invokestatic 144, 3) := by decide +kernel
theorem dX0_movesByPuttingIn_96 : decode cX0_movesByPuttingIn 96 = .ok (.if_icmp .eq 6, 3) := by decide +kernel
theorem dX0_movesByPuttingIn_99 : decode cX0_movesByPuttingIn 99 = .ok (.iinc 6 1, 3) := by decide +kernel
theorem dX0_movesByPuttingIn_102 : decode cX0_movesByPuttingIn 102 = .ok (.iinc 7 1, 3) := by decide +kernel
theorem dX0_movesByPuttingIn_105 : decode cX0_movesByPuttingIn 105 = .ok (.goto (-56), 3) := by decide +kernel
theorem dX0_movesByPuttingIn_108 : decode cX0_movesByPuttingIn 108 = .ok (.iload 6, 2) := by decide +kernel
theorem dX0_movesByPuttingIn_110 : decode cX0_movesByPuttingIn 110 = .ok (.ireturn, 1) := by decide +kernel
set_option maxRecDepth 20000 in
theorem ggX0_levelToSpread_X0_shelfToSpread : GoodIn wsX0_levelToSpread wsX0_shelfToSpread := goodIn_r _ [6, 7, 8, 9, 10, 11, 12, 13, 5, 14, 15, 16, 17, 18, 19, 20, 21, 37, 38, 39, 40, 41, 42, 43, 44] (by decide +kernel) (by decide +kernel)
set_option maxRecDepth 20000 in
theorem gX0_levelToSpread_X0_shelfToSpread : GoodIn wsX0_levelToSpread (wsV RX0 138 RX0 yX0_shelfToSpread wsX0_shelfToSpread) := goodIn_app (goodIn_of _ (by decide +kernel)) ggX0_levelToSpread_X0_shelfToSpread
set_option maxRecDepth 20000 in
theorem ggX0_levelToSpread_X0_isLoaded : GoodIn wsX0_levelToSpread wsX0_isLoaded := goodIn_r _ [25, 1, 26, 27, 28, 5, 29, 30, 31, 32, 33, 34, 35, 36, 20, 15, 37, 38, 39, 40, 41, 42, 43, 44] (by decide +kernel) (by decide +kernel)
set_option maxRecDepth 20000 in
theorem gX0_levelToSpread_X0_isLoaded : GoodIn wsX0_levelToSpread (wsV RX0 88 RX0 yX0_isLoaded wsX0_isLoaded) := goodIn_app (goodIn_of _ (by decide +kernel)) ggX0_levelToSpread_X0_isLoaded
theorem dX0_levelToSpread_0 : decode cX0_levelToSpread 0 = .ok (.getstatic 16, 3) := by decide +kernel
theorem dX0_levelToSpread_3 : decode cX0_levelToSpread 3 = .ok (.arraylength, 1) := by decide +kernel
theorem dX0_levelToSpread_4 : decode cX0_levelToSpread 4 = .ok (.iconst 1, 1) := by decide +kernel
theorem dX0_levelToSpread_5 : decode cX0_levelToSpread 5 = .ok (.isub, 1) := by decide +kernel
theorem dX0_levelToSpread_6 : decode cX0_levelToSpread 6 = .ok (.istore_n 2, 1) := by decide +kernel
theorem dX0_levelToSpread_7 : decode cX0_levelToSpread 7 = .ok (.iconst 1, 1) := by decide +kernel
theorem dX0_levelToSpread_8 : decode cX0_levelToSpread 8 = .ok (.istore_n 3, 1) := by decide +kernel
theorem dX0_levelToSpread_9 : decode cX0_levelToSpread 9 = .ok (.iload_n 3, 1) := by decide +kernel
theorem dX0_levelToSpread_10 : decode cX0_levelToSpread 10 = .ok (.iload_n 2, 1) := by decide +kernel
theorem dX0_levelToSpread_11 : decode cX0_levelToSpread 11 = .ok (.if_icmp .ge 23, 3) := by decide +kernel
theorem dX0_levelToSpread_14 : decode cX0_levelToSpread 14 = .ok (.aload_n 0, 1) := by decide +kernel
theorem dX0_levelToSpread_15 : decode cX0_levelToSpread 15 = .ok (.iload_n 3, 1) := by decide +kernel
theorem dX0_levelToSpread_16 : decode cX0_levelToSpread 16 = .ok (.aload_n 0, 1) := by decide +kernel
theorem dX0_levelToSpread_17 : decode cX0_levelToSpread 17 = .ok (.iload_n 1, 1) := by decide +kernel
theorem dX0_levelToSpread_18 : decode cX0_levelToSpread 18 = .ok (.iload_n 3, 1) := by decide +kernel
theorem dX0_levelToSpread_19 : decode cX0_levelToSpread 19 = .ok (.invokevirtual 138, 3) := by decide +kernel
theorem dX0_levelToSpread_22 : decode cX0_levelToSpread 22 = .ok (.invokevirtual 88, 3) := by decide +kernel
theorem dX0_levelToSpread_25 : decode cX0_levelToSpread 25 = .ok (.ifCond .eq 9, 3) := by decide +kernel
theorem dX0_levelToSpread_28 : decode cX0_levelToSpread 28 = .ok (.iinc 3 1, 3) := by decide +kernel
theorem dX0_levelToSpread_31 : decode cX0_levelToSpread 31 = .ok (.goto (-22), 3) := by decide +kernel
theorem dX0_levelToSpread_34 : decode cX0_levelToSpread 34 = .ok (.iload_n 3, 1) := by decide +kernel
theorem dX0_levelToSpread_35 : decode cX0_levelToSpread 35 = .ok (.ireturn, 1) := by decide +kernel
set_option maxRecDepth 20000 in
theorem ggX0_shelfToSpread_X0_markAt : GoodIn wsX0_shelfToSpread wsX0_markAt := goodIn_r _ [9, 10, 11, 12, 13, 8, 14, 15, 16, 17, 18, 19, 20, 21, 22, 23, 24] (by decide +kernel) (by decide +kernel)
set_option maxRecDepth 20000 in
theorem gX0_shelfToSpread_X0_markAt : GoodIn wsX0_shelfToSpread (wsV RX0 67 RX0 yX0_markAt wsX0_markAt) := goodIn_app (goodIn_of _ (by decide +kernel)) ggX0_shelfToSpread_X0_markAt
theorem dX0_shelfToSpread_0 : decode cX0_shelfToSpread 0 = .ok (.aload_n 0, 1) := by decide +kernel
theorem dX0_shelfToSpread_1 : decode cX0_shelfToSpread 1 = .ok (.iload_n 1, 1) := by decide +kernel
theorem dX0_shelfToSpread_2 : decode cX0_shelfToSpread 2 = .ok (.iconst 1, 1) := by decide +kernel
theorem dX0_shelfToSpread_3 : decode cX0_shelfToSpread 3 = .ok (.isub, 1) := by decide +kernel
theorem dX0_shelfToSpread_4 : decode cX0_shelfToSpread 4 = .ok (.invokevirtual 67, 3) := by decide +kernel
theorem dX0_shelfToSpread_7 : decode cX0_shelfToSpread 7 = .ok (.iconst 0, 1) := by decide +kernel
theorem dX0_shelfToSpread_8 : decode cX0_shelfToSpread 8 = .ok (.invokestatic 151, 3) := by decide +kernel
theorem dX0_shelfToSpread_11 : decode cX0_shelfToSpread 11 = .ok (.iload_n 2, 1) := by decide +kernel
theorem dX0_shelfToSpread_12 : decode cX0_shelfToSpread 12 = .ok (.ishr, 1) := by decide +kernel
theorem dX0_shelfToSpread_13 : decode cX0_shelfToSpread 13 = .ok (.ireturn, 1) := by decide +kernel
set_option maxRecDepth 20000 in
theorem ggX0_spreadMark_X0_shelfSize : GoodIn wsX0_spreadMark wsX0_shelfSize := goodIn_r _ [4] (by decide +kernel) (by decide +kernel)
set_option maxRecDepth 20000 in
theorem gX0_spreadMark_X0_shelfSize : GoodIn wsX0_spreadMark (va_wsS RX0 156 yX0_shelfSize wsX0_shelfSize) := goodIn_app (goodIn_of _ (by decide +kernel)) ggX0_spreadMark_X0_shelfSize
set_option maxRecDepth 20000 in
theorem ggX0_spreadMark_X0_firstMark : GoodIn wsX0_spreadMark wsX0_firstMark := goodIn_r _ [7] (by decide +kernel) (by decide +kernel)
set_option maxRecDepth 20000 in
theorem gX0_spreadMark_X0_firstMark : GoodIn wsX0_spreadMark (va_wsS RX0 141 yX0_firstMark wsX0_firstMark) := goodIn_app (goodIn_of _ (by decide +kernel)) ggX0_spreadMark_X0_firstMark
theorem dX0_spreadMark_0 : decode cX0_spreadMark 0 = .ok (.iload_n 3, 1) := by decide +kernel
theorem dX0_spreadMark_1 : decode cX0_spreadMark 1 = .ok (.ifCond .le 14, 3) := by decide +kernel
theorem dX0_spreadMark_4 : decode cX0_spreadMark 4 = .ok (.iload_n 2, 1) := by decide +kernel
theorem dX0_spreadMark_5 : decode cX0_spreadMark 5 = .ok (.iload_n 0, 1) := by decide +kernel
theorem dX0_spreadMark_6 : decode cX0_spreadMark 6 = .ok (.invokestatic 156, 3) := by decide +kernel
theorem dX0_spreadMark_9 : decode cX0_spreadMark 9 = .ok (.imul, 1) := by decide +kernel
theorem dX0_spreadMark_10 : decode cX0_spreadMark 10 = .ok (.iload_n 3, 1) := by decide +kernel
theorem dX0_spreadMark_11 : decode cX0_spreadMark 11 = .ok (.idiv, 1) := by decide +kernel
theorem dX0_spreadMark_12 : decode cX0_spreadMark 12 = .ok (.goto 4, 3) := by decide +kernel
theorem dX0_spreadMark_15 : decode cX0_spreadMark 15 = .ok (.iconst 0, 1) := by decide +kernel
theorem dX0_spreadMark_16 : decode cX0_spreadMark 16 = .ok (.istore 4, 2) := by decide +kernel
theorem dX0_spreadMark_18 : decode cX0_spreadMark 18 = .ok (.iload_n 0, 1) := by decide +kernel
theorem dX0_spreadMark_19 : decode cX0_spreadMark 19 = .ok (.iload_n 1, 1) := by decide +kernel
theorem dX0_spreadMark_20 : decode cX0_spreadMark 20 = .ok (.invokestatic 141, 3) := by decide +kernel
theorem dX0_spreadMark_23 : decode cX0_spreadMark 23 = .ok (.iload 4, 2) := by decide +kernel
theorem dX0_spreadMark_25 : decode cX0_spreadMark 25 = .ok (.iadd, 1) := by decide +kernel
theorem dX0_spreadMark_26 : decode cX0_spreadMark 26 = .ok (.ireturn, 1) := by decide +kernel
theorem dX0_countSpread_0 : decode cX0_countSpread 0 = .ok (.iload_n 1, 1) := by decide +kernel
theorem dX0_countSpread_1 : decode cX0_countSpread 1 = .ok (.ifCond .lt 22, 3) := by decide +kernel
theorem dX0_countSpread_4 : decode cX0_countSpread 4 = .ok (.iload_n 1, 1) := by decide +kernel
theorem dX0_countSpread_5 : decode cX0_countSpread 5 = .ok (.aload_n 0, 1) := by decide +kernel
theorem dX0_countSpread_6 : decode cX0_countSpread 6 = .ok (.getfield 19, 3) := by decide +kernel
theorem dX0_countSpread_9 : decode cX0_countSpread 9 = .ok (.arraylength, 1) := by decide +kernel
theorem dX0_countSpread_10 : decode cX0_countSpread 10 = .ok (.if_icmp .ge 13, 3) := by decide +kernel
theorem dX0_countSpread_13 : decode cX0_countSpread 13 = .ok (.aload_n 0, 1) := by decide +kernel
theorem dX0_countSpread_14 : decode cX0_countSpread 14 = .ok (.getfield 19, 3) := by decide +kernel
theorem dX0_countSpread_17 : decode cX0_countSpread 17 = .ok (.iload_n 1, 1) := by decide +kernel
theorem dX0_countSpread_18 : decode cX0_countSpread 18 = .ok (.dup2, 1) := by decide +kernel
theorem dX0_countSpread_19 : decode cX0_countSpread 19 = .ok (.iaload, 1) := by decide +kernel
theorem dX0_countSpread_20 : decode cX0_countSpread 20 = .ok (.iconst 1, 1) := by decide +kernel
theorem dX0_countSpread_21 : decode cX0_countSpread 21 = .ok (.iadd, 1) := by decide +kernel
theorem dX0_countSpread_22 : decode cX0_countSpread 22 = .ok (.iastore, 1) := by decide +kernel
theorem dX0_countSpread_23 : decode cX0_countSpread 23 = .ok (.return_, 1) := by decide +kernel
theorem dX0_shelfSize_0 : decode cX0_shelfSize 0 = .ok (.iconst 1, 1) := by decide +kernel
theorem dX0_shelfSize_1 : decode cX0_shelfSize 1 = .ok (.iload_n 0, 1) := by decide +kernel
theorem dX0_shelfSize_2 : decode cX0_shelfSize 2 = .ok (.ishl, 1) := by decide +kernel
theorem dX0_shelfSize_3 : decode cX0_shelfSize 3 = .ok (.ireturn, 1) := by decide +kernel
theorem dX0_firstMark_0 : decode cX0_firstMark 0 = .ok (.iload_n 1, 1) := by decide +kernel
theorem dX0_firstMark_1 : decode cX0_firstMark 1 = .ok (.iload_n 0, 1) := by decide +kernel
theorem dX0_firstMark_2 : decode cX0_firstMark 2 = .ok (.ishl, 1) := by decide +kernel
theorem dX0_firstMark_3 : decode cX0_firstMark 3 = .ok (.ireturn, 1) := by decide +kernel
set_option maxRecDepth 20000 in
theorem ggX0_foldersOn_X0_firstMark : GoodIn wsX0_foldersOn wsX0_firstMark := goodIn_r _ [4] (by decide +kernel) (by decide +kernel)
set_option maxRecDepth 20000 in
theorem gX0_foldersOn_X0_firstMark : GoodIn wsX0_foldersOn (va_wsS RX0 141 yX0_firstMark wsX0_firstMark) := goodIn_app (goodIn_of _ (by decide +kernel)) ggX0_foldersOn_X0_firstMark
set_option maxRecDepth 20000 in
theorem ggX0_foldersOn_X0_marksBelow : GoodIn wsX0_foldersOn wsX0_marksBelow := goodIn_r _ [8, 9, 10, 11, 12, 13, 14, 15, 16, 17, 18] (by decide +kernel) (by decide +kernel)
set_option maxRecDepth 20000 in
theorem gX0_foldersOn_X0_marksBelow : GoodIn wsX0_foldersOn (wsV RX0 70 RX0 yX0_marksBelow wsX0_marksBelow) := goodIn_app (goodIn_of _ (by decide +kernel)) ggX0_foldersOn_X0_marksBelow
theorem dX0_foldersOn_0 : decode cX0_foldersOn 0 = .ok (.aload_n 0, 1) := by decide +kernel
theorem dX0_foldersOn_1 : decode cX0_foldersOn 1 = .ok (.iload_n 1, 1) := by decide +kernel
theorem dX0_foldersOn_2 : decode cX0_foldersOn 2 = .ok (.iload_n 2, 1) := by decide +kernel
theorem dX0_foldersOn_3 : decode cX0_foldersOn 3 = .ok (.iconst 1, 1) := by decide +kernel
theorem dX0_foldersOn_4 : decode cX0_foldersOn 4 = .ok (.iadd, 1) := by decide +kernel
theorem dX0_foldersOn_5 : decode cX0_foldersOn 5 = .ok (.invokestatic 141, 3) := by decide +kernel
theorem dX0_foldersOn_8 : decode cX0_foldersOn 8 = .ok (.invokevirtual 70, 3) := by decide +kernel
theorem dX0_foldersOn_11 : decode cX0_foldersOn 11 = .ok (.aload_n 0, 1) := by decide +kernel
theorem dX0_foldersOn_12 : decode cX0_foldersOn 12 = .ok (.iload_n 1, 1) := by decide +kernel
theorem dX0_foldersOn_13 : decode cX0_foldersOn 13 = .ok (.iload_n 2, 1) := by decide +kernel
theorem dX0_foldersOn_14 : decode cX0_foldersOn 14 = .ok (.invokestatic 141, 3) := by decide +kernel
theorem dX0_foldersOn_17 : decode cX0_foldersOn 17 = .ok (.invokevirtual 70, 3) := by decide +kernel
theorem dX0_foldersOn_20 : decode cX0_foldersOn 20 = .ok (.isub, 1) := by decide +kernel
theorem dX0_foldersOn_21 : decode cX0_foldersOn 21 = .ok (.ireturn, 1) := by decide +kernel
set_option maxRecDepth 20000 in
theorem ggX0_isLoaded_X0_foldersOn : GoodIn wsX0_isLoaded wsX0_foldersOn := goodIn_r _ [6, 7, 8, 5, 9, 10, 11, 12, 13, 14, 15, 16, 17, 18, 19, 20, 21, 22, 23] (by decide +kernel) (by decide +kernel)
set_option maxRecDepth 20000 in
theorem gX0_isLoaded_X0_foldersOn : GoodIn wsX0_isLoaded (wsV RX0 84 RX0 yX0_foldersOn wsX0_foldersOn) := goodIn_app (goodIn_of _ (by decide +kernel)) ggX0_isLoaded_X0_foldersOn
theorem dX0_isLoaded_0 : decode cX0_isLoaded 0 = .ok (.iload_n 1, 1) := by decide +kernel
theorem dX0_isLoaded_1 : decode cX0_isLoaded 1 = .ok (.ifCond .lt 29, 3) := by decide +kernel
theorem dX0_isLoaded_4 : decode cX0_isLoaded 4 = .ok (.iload_n 1, 1) := by decide +kernel
theorem dX0_isLoaded_5 : decode cX0_isLoaded 5 = .ok (.getstatic 16, 3) := by decide +kernel
theorem dX0_isLoaded_8 : decode cX0_isLoaded 8 = .ok (.arraylength, 1) := by decide +kernel
theorem dX0_isLoaded_9 : decode cX0_isLoaded 9 = .ok (.if_icmp .ge 21, 3) := by decide +kernel
theorem dX0_isLoaded_12 : decode cX0_isLoaded 12 = .ok (.aload_n 0, 1) := by decide +kernel
theorem dX0_isLoaded_13 : decode cX0_isLoaded 13 = .ok (.iload_n 1, 1) := by decide +kernel
theorem dX0_isLoaded_14 : decode cX0_isLoaded 14 = .ok (.iload_n 2, 1) := by decide +kernel
theorem dX0_isLoaded_15 : decode cX0_isLoaded 15 = .ok (.invokevirtual 84, 3) := by decide +kernel
theorem dX0_isLoaded_18 : decode cX0_isLoaded 18 = .ok (.getstatic 16, 3) := by decide +kernel
theorem dX0_isLoaded_21 : decode cX0_isLoaded 21 = .ok (.iload_n 1, 1) := by decide +kernel
theorem dX0_isLoaded_22 : decode cX0_isLoaded 22 = .ok (.iaload, 1) := by decide +kernel
theorem dX0_isLoaded_23 : decode cX0_isLoaded 23 = .ok (.if_icmp .lt 7, 3) := by decide +kernel
theorem dX0_isLoaded_26 : decode cX0_isLoaded 26 = .ok (.iconst 1, 1) := by decide +kernel
theorem dX0_isLoaded_27 : decode cX0_isLoaded 27 = .ok (.goto 4, 3) := by decide +kernel
theorem dX0_isLoaded_30 : decode cX0_isLoaded 30 = .ok (.iconst 0, 1) := by decide +kernel
theorem dX0_isLoaded_31 : decode cX0_isLoaded 31 = .ok (.ireturn, 1) := by decide +kernel
theorem dX0_readersAt_0 : decode cX0_readersAt 0 = .ok (.iconst 0, 1) := by decide +kernel
theorem dX0_readersAt_1 : decode cX0_readersAt 1 = .ok (.istore_n 2, 1) := by decide +kernel
theorem dX0_readersAt_2 : decode cX0_readersAt 2 = .ok (.iconst 0, 1) := by decide +kernel
theorem dX0_readersAt_3 : decode cX0_readersAt 3 = .ok (.istore_n 3, 1) := by decide +kernel
theorem dX0_readersAt_4 : decode cX0_readersAt 4 = .ok (.iload_n 3, 1) := by decide +kernel
theorem dX0_readersAt_5 : decode cX0_readersAt 5 = .ok (.iconst 4, 1) := by decide +kernel
theorem dX0_readersAt_6 : decode cX0_readersAt 6 = .ok (.if_icmp .ge 22, 3) := by decide +kernel
theorem dX0_readersAt_9 : decode cX0_readersAt 9 = .ok (.aload_n 0, 1) := by decide +kernel
theorem dX0_readersAt_10 : decode cX0_readersAt 10 = .ok (.getfield 22, 3) := by decide +kernel
theorem dX0_readersAt_13 : decode cX0_readersAt 13 = .ok (.iload_n 3, 1) := by decide +kernel
theorem dX0_readersAt_14 : decode cX0_readersAt 14 = .ok (.iaload, 1) := by decide +kernel
theorem dX0_readersAt_15 : decode cX0_readersAt 15 = .ok (.iload_n 1, 1) := by decide +kernel
theorem dX0_readersAt_16 : decode cX0_readersAt 16 = .ok (.if_icmp .ne 6, 3) := by decide +kernel
theorem dX0_readersAt_19 : decode cX0_readersAt 19 = .ok (.iinc 2 1, 3) := by decide +kernel
theorem dX0_readersAt_22 : decode cX0_readersAt 22 = .ok (.iinc 3 1, 3) := by decide +kernel
theorem dX0_readersAt_25 : decode cX0_readersAt 25 = .ok (.goto (-21), 3) := by decide +kernel
theorem dX0_readersAt_28 : decode cX0_readersAt 28 = .ok (.iload_n 2, 1) := by decide +kernel
theorem dX0_readersAt_29 : decode cX0_readersAt 29 = .ok (.ireturn, 1) := by decide +kernel
theorem dX0_sendReadersOn_0 : decode cX0_sendReadersOn 0 = .ok (.iconst 0, 1) := by decide +kernel
theorem dX0_sendReadersOn_1 : decode cX0_sendReadersOn 1 = .ok (.istore_n 3, 1) := by decide +kernel
theorem dX0_sendReadersOn_2 : decode cX0_sendReadersOn 2 = .ok (.iload_n 3, 1) := by decide +kernel
theorem dX0_sendReadersOn_3 : decode cX0_sendReadersOn 3 = .ok (.iconst 4, 1) := by decide +kernel
theorem dX0_sendReadersOn_4 : decode cX0_sendReadersOn 4 = .ok (.if_icmp .ge 26, 3) := by decide +kernel
theorem dX0_sendReadersOn_7 : decode cX0_sendReadersOn 7 = .ok (.aload_n 0, 1) := by decide +kernel
theorem dX0_sendReadersOn_8 : decode cX0_sendReadersOn 8 = .ok (.getfield 22, 3) := by decide +kernel
theorem dX0_sendReadersOn_11 : decode cX0_sendReadersOn 11 = .ok (.iload_n 3, 1) := by decide +kernel
theorem dX0_sendReadersOn_12 : decode cX0_sendReadersOn 12 = .ok (.iaload, 1) := by decide +kernel
theorem dX0_sendReadersOn_13 : decode cX0_sendReadersOn 13 = .ok (.iload_n 1, 1) := by decide +kernel
theorem dX0_sendReadersOn_14 : decode cX0_sendReadersOn 14 = .ok (.if_icmp .ne 10, 3) := by decide +kernel
theorem dX0_sendReadersOn_17 : decode cX0_sendReadersOn 17 = .ok (.aload_n 0, 1) := by decide +kernel
theorem dX0_sendReadersOn_18 : decode cX0_sendReadersOn 18 = .ok (.getfield 22, 3) := by decide +kernel
theorem dX0_sendReadersOn_21 : decode cX0_sendReadersOn 21 = .ok (.iload_n 3, 1) := by decide +kernel
theorem dX0_sendReadersOn_22 : decode cX0_sendReadersOn 22 = .ok (.iload_n 2, 1) := by decide +kernel
theorem dX0_sendReadersOn_23 : decode cX0_sendReadersOn 23 = .ok (.iastore, 1) := by decide +kernel
theorem dX0_sendReadersOn_24 : decode cX0_sendReadersOn 24 = .ok (.iinc 3 1, 3) := by decide +kernel
theorem dX0_sendReadersOn_27 : decode cX0_sendReadersOn 27 = .ok (.goto (-25), 3) := by decide +kernel
theorem dX0_sendReadersOn_30 : decode cX0_sendReadersOn 30 = .ok (.return_, 1) := by decide +kernel
theorem dJ9_max_7cf53_0 : decode cJ9_max_7cf53 0 = .ok (.iload_n 0, 1) := by decide +kernel
theorem dJ9_max_7cf53_1 : decode cJ9_max_7cf53 1 = .ok (.iload_n 1, 1) := by decide +kernel
theorem dJ9_max_7cf53_2 : decode cJ9_max_7cf53 2 = .ok (.if_icmp .lt 7, 3) := by decide +kernel
theorem dJ9_max_7cf53_5 : decode cJ9_max_7cf53 5 = .ok (.iload_n 0, 1) := by decide +kernel
theorem dJ9_max_7cf53_6 : decode cJ9_max_7cf53 6 = .ok (.goto 4, 3) := by decide +kernel
theorem dJ9_max_7cf53_9 : decode cJ9_max_7cf53 9 = .ok (.iload_n 1, 1) := by decide +kernel
theorem dJ9_max_7cf53_10 : decode cJ9_max_7cf53 10 = .ok (.ireturn, 1) := by decide +kernel
theorem dL_drawn_0 : decode cL_drawn 0 = .ok (.iload_n 1, 1) := by decide +kernel
theorem dL_drawn_1 : decode cL_drawn 1 = .ok (.aload_n 0, 1) := by decide +kernel
theorem dL_drawn_2 : decode cL_drawn 2 = .ok (.arraylength, 1) := by decide +kernel
theorem dL_drawn_3 : decode cL_drawn 3 = .ok (.if_icmp .ge 9, 3) := by decide +kernel
theorem dL_drawn_6 : decode cL_drawn 6 = .ok (.aload_n 0, 1) := by decide +kernel
theorem dL_drawn_7 : decode cL_drawn 7 = .ok (.iload_n 1, 1) := by decide +kernel
theorem dL_drawn_8 : decode cL_drawn 8 = .ok (.iaload, 1) := by decide +kernel
theorem dL_drawn_9 : decode cL_drawn 9 = .ok (.goto 11, 3) := by decide +kernel
theorem dL_drawn_12 : decode cL_drawn 12 = .ok (.ldc 7, 2) := by decide +kernel
theorem dL_drawn_14 : decode cL_drawn 14 = .ok (.iload_n 1, 1) := by decide +kernel
theorem dL_drawn_15 : decode cL_drawn 15 = .ok (.imul, 1) := by decide +kernel
theorem dL_drawn_16 : decode cL_drawn 16 = .ok (.sipush 8081, 3) := by decide +kernel
theorem dL_drawn_19 : decode cL_drawn 19 = .ok (.iadd, 1) := by decide +kernel
theorem dL_drawn_20 : decode cL_drawn 20 = .ok (.istore_n 2, 1) := by decide +kernel
theorem dL_drawn_21 : decode cL_drawn 21 = .ok (.iload_n 2, 1) := by decide +kernel
theorem dL_drawn_22 : decode cL_drawn 22 = .ok (.ldc 8, 2) := by decide +kernel
theorem dL_drawn_24 : decode cL_drawn 24 = .ok (.iand, 1) := by decide +kernel
theorem dL_drawn_25 : decode cL_drawn 25 = .ok (.ireturn, 1) := by decide +kernel
set_option maxRecDepth 20000 in
theorem ggL_done_X0_putFirst : GoodIn wsL_done wsX0_putFirst := goodIn_ca (goodIn_r _ [8, 9, 10, 11, 7, 12, 13, 14, 15, 16, 17, 18, 19, 20, 21, 22, 23, 24, 25, 26, 27, 28, 29, 30, 31, 32, 33, 34, 35, 36, 37, 38, 39, 40, 41, 42, 43, 44, 45, 46, 47, 48, 49, 50, 51, 52, 53, 54, 55, 56, 57, 58, 59, 60, 61, 62, 63, 64, 65, 66, 67, 68, 69, 70, 71, 72, 73, 74, 75, 76, 77, 78, 79, 80, 81, 82, 83, 84, 85, 86, 87, 88, 89, 90, 91, 92, 93, 94, 95, 96, 97, 98, 143, 144, 145, 146, 147, 148, 149, 150] (by decide +kernel) (by decide +kernel)) (goodIn_sub (fun _ h => List.mem_cons_of_mem _ (List.mem_append_left _ (List.mem_append_left _ (List.mem_append_right _ h)))) (by decide +kernel))
set_option maxRecDepth 20000 in
theorem gL_done_X0_putFirst : GoodIn wsL_done (wsV RL 9 RX0 yX0_putFirst wsX0_putFirst) := goodIn_app (goodIn_of _ (by decide +kernel)) ggL_done_X0_putFirst
set_option maxRecDepth 20000 in
theorem ggL_done_X0_putBehind : GoodIn wsL_done wsX0_putBehind := goodIn_ca (goodIn_ca (goodIn_r _ [102, 103, 104, 105, 7, 106, 107, 108, 109, 110, 111, 112, 16, 43, 9, 10, 11, 12, 13, 14, 15, 17, 18, 19, 20, 21, 22, 23, 24, 25, 26, 27, 28, 29, 30, 31, 32, 33, 34, 35, 36, 37, 38, 39, 40, 41, 42, 44, 45, 46, 47, 48, 49, 50, 51, 52, 53, 54, 55, 56, 57, 58, 59, 60, 61, 62, 63, 64, 65, 66, 67, 68, 69, 70, 71, 72, 73, 74, 75, 76, 77, 78, 79, 80, 81, 82, 83, 84, 85, 86, 87, 88, 89, 90, 91, 92, 93, 94, 95, 96, 97, 98, 143, 144, 145, 146, 147, 148, 149, 150] (by decide +kernel) (by decide +kernel)) (goodIn_sub (fun _ h => List.mem_cons_of_mem _ (List.mem_append_left _ (List.mem_append_right _ h))) (by decide +kernel))) (goodIn_sub (fun _ h => List.mem_cons_of_mem _ (List.mem_append_left _ (List.mem_append_left _ (List.mem_append_right _ h)))) (by decide +kernel))
set_option maxRecDepth 20000 in
theorem gL_done_X0_putBehind : GoodIn wsL_done (wsV RL 15 RX0 yX0_putBehind wsX0_putBehind) := goodIn_app (goodIn_of _ (by decide +kernel)) ggL_done_X0_putBehind
set_option maxRecDepth 20000 in
theorem ggL_done_X0_takeOut : GoodIn wsL_done wsX0_takeOut := goodIn_ca (goodIn_r _ [116, 16, 103, 104, 105, 7, 106, 107, 108, 109, 110, 111, 112, 43, 82, 83, 84, 85, 39, 40, 41, 42, 38, 117, 118, 119, 120, 121, 122, 123, 124, 125, 34, 35, 36, 37, 86, 87, 88, 89, 143, 144, 145, 146, 147, 148, 149, 150] (by decide +kernel) (by decide +kernel)) (goodIn_sub (fun _ h => List.mem_cons_of_mem _ (List.mem_append_left _ (List.mem_append_right _ h))) (by decide +kernel))
set_option maxRecDepth 20000 in
theorem gL_done_X0_takeOut : GoodIn wsL_done (wsV RL 19 RX0 yX0_takeOut wsX0_takeOut) := goodIn_app (goodIn_of _ (by decide +kernel)) ggL_done_X0_takeOut
set_option maxRecDepth 20000 in
theorem ggL_done_X0_carry : GoodIn wsL_done wsX0_carry := goodIn_ca (goodIn_ca (goodIn_r _ [129, 130, 131, 103, 104, 105, 7, 106, 107, 108, 109, 110, 111, 112, 16, 43, 122, 123, 124, 125, 39, 40, 41, 42, 38, 82, 83, 84, 85, 34, 35, 36, 37, 86, 87, 88, 89, 21, 22, 23, 24, 25, 26, 27, 28, 29, 30, 31, 32, 33, 44, 45, 46, 47, 48, 49, 50, 51, 52, 53, 54, 55, 56, 57, 58, 59, 60, 61, 62, 63, 64, 65, 66, 67, 68, 69, 70, 71, 72, 73, 74, 75, 76, 77, 78, 79, 80, 81, 90, 91, 92, 93, 94, 95, 96, 97, 98, 143, 144, 145, 146, 147, 148, 149, 150] (by decide +kernel) (by decide +kernel)) (goodIn_sub (fun _ h => List.mem_cons_of_mem _ (List.mem_append_right _ h)) (by decide +kernel))) (goodIn_sub (fun _ h => List.mem_cons_of_mem _ (List.mem_append_left _ (List.mem_append_right _ h))) (by decide +kernel))
set_option maxRecDepth 20000 in
theorem gL_done_X0_carry : GoodIn wsL_done (wsV RL 22 RX0 yX0_carry wsX0_carry) := goodIn_app (goodIn_of _ (by decide +kernel)) ggL_done_X0_carry
set_option maxRecDepth 20000 in
theorem ggL_done_X0_seat : GoodIn wsL_done wsX0_seat := goodIn_ca (goodIn_r _ [135, 121, 136, 137, 7, 138, 107, 108, 103, 104, 105, 106, 109, 110, 111, 112, 16, 43, 139, 140, 141, 142, 143, 144, 145, 146, 147, 148, 149, 150] (by decide +kernel) (by decide +kernel)) (goodIn_sub (fun _ h => List.mem_cons_of_mem _ (List.mem_append_left _ (List.mem_append_right _ h))) (by decide +kernel))
set_option maxRecDepth 20000 in
theorem gL_done_X0_seat : GoodIn wsL_done (wsV RL 26 RX0 yX0_seat wsX0_seat) := goodIn_app (goodIn_of _ (by decide +kernel)) ggL_done_X0_seat
theorem dL_done_0 : decode cL_done 0 = .ok (.iload_n 1, 1) := by decide +kernel
theorem dL_done_1 : decode cL_done 1 = .ok (.ifCond .ne 10, 3) := by decide +kernel
theorem dL_done_4 : decode cL_done 4 = .ok (.aload_n 0, 1) := by decide +kernel
theorem dL_done_5 : decode cL_done 5 = .ok (.invokevirtual 9, 3) := by decide +kernel
theorem dL_done_8 : decode cL_done 8 = .ok (.goto 49, 3) := by decide +kernel
theorem dL_done_11 : decode cL_done 11 = .ok (.iload_n 1, 1) := by decide +kernel
theorem dL_done_12 : decode cL_done 12 = .ok (.iconst 1, 1) := by decide +kernel
theorem dL_done_13 : decode cL_done 13 = .ok (.if_icmp .ne 11, 3) := by decide +kernel
theorem dL_done_16 : decode cL_done 16 = .ok (.aload_n 0, 1) := by decide +kernel
theorem dL_done_17 : decode cL_done 17 = .ok (.iload_n 2, 1) := by decide +kernel
theorem dL_done_18 : decode cL_done 18 = .ok (.invokevirtual 15, 3) := by decide +kernel
theorem dL_done_21 : decode cL_done 21 = .ok (.goto 36, 3) := by decide +kernel
theorem dL_done_24 : decode cL_done 24 = .ok (.iload_n 1, 1) := by decide +kernel
theorem dL_done_25 : decode cL_done 25 = .ok (.iconst 2, 1) := by decide +kernel
theorem dL_done_26 : decode cL_done 26 = .ok (.if_icmp .ne 11, 3) := by decide +kernel
theorem dL_done_29 : decode cL_done 29 = .ok (.aload_n 0, 1) := by decide +kernel
theorem dL_done_30 : decode cL_done 30 = .ok (.iload_n 2, 1) := by decide +kernel
theorem dL_done_31 : decode cL_done 31 = .ok (.invokevirtual 19, 3) := by decide +kernel
theorem dL_done_34 : decode cL_done 34 = .ok (.goto 23, 3) := by decide +kernel
theorem dL_done_37 : decode cL_done 37 = .ok (.iload_n 1, 1) := by decide +kernel
theorem dL_done_38 : decode cL_done 38 = .ok (.iconst 3, 1) := by decide +kernel
theorem dL_done_39 : decode cL_done 39 = .ok (.if_icmp .ne 12, 3) := by decide +kernel
theorem dL_done_42 : decode cL_done 42 = .ok (.aload_n 0, 1) := by decide +kernel
theorem dL_done_43 : decode cL_done 43 = .ok (.iload_n 2, 1) := by decide +kernel
theorem dL_done_44 : decode cL_done 44 = .ok (.iload_n 3, 1) := by decide +kernel
theorem dL_done_45 : decode cL_done 45 = .ok (.invokevirtual 22, 3) := by decide +kernel
theorem dL_done_48 : decode cL_done 48 = .ok (.goto 9, 3) := by decide +kernel
theorem dL_done_51 : decode cL_done 51 = .ok (.aload_n 0, 1) := by decide +kernel
theorem dL_done_52 : decode cL_done 52 = .ok (.iload_n 3, 1) := by decide +kernel
theorem dL_done_53 : decode cL_done 53 = .ok (.iload_n 2, 1) := by decide +kernel
theorem dL_done_54 : decode cL_done 54 = .ok (.invokevirtual 26, 3) := by decide +kernel
theorem dL_done_57 : decode cL_done 57 = .ok (.ireturn, 1) := by decide +kernel
theorem dL_done_58 : decode cL_done 58 = .ok (.astore 4, 2) := by decide +kernel
theorem dL_done_60 : decode cL_done 60 = .ok (.bipush (-60), 2) := by decide +kernel
theorem dL_done_62 : decode cL_done 62 = .ok (.ireturn, 1) := by decide +kernel
theorem dL_done_63 : decode cL_done 63 = .ok (.astore 4, 2) := by decide +kernel
theorem dL_done_65 : decode cL_done 65 = .ok (.bipush (-60), 2) := by decide +kernel
theorem dL_done_67 : decode cL_done 67 = .ok (.ireturn, 1) := by decide +kernel
theorem dL_done_68 : decode cL_done 68 = .ok (.astore 4, 2) := by decide +kernel
theorem dL_done_70 : decode cL_done 70 = .ok (.bipush (-60), 2) := by decide +kernel
theorem dL_done_72 : decode cL_done 72 = .ok (.ireturn, 1) := by decide +kernel
set_option maxRecDepth 20000 in
theorem ggL_asked_X0_next : GoodIn wsL_asked wsX0_next := goodIn_ca (goodIn_r _ [6, 7, 8, 9, 5, 10, 11, 12, 13, 14, 15, 16, 17, 18, 19, 20, 21, 22, 23, 24, 25, 26, 27, 57, 58, 59, 60, 61, 62, 63, 64] (by decide +kernel) (by decide +kernel)) (goodIn_sub (fun _ h => List.mem_cons_of_mem _ (List.mem_append_right _ h)) (by decide +kernel))
set_option maxRecDepth 20000 in
theorem gL_asked_X0_next : GoodIn wsL_asked (wsV RL 35 RX0 yX0_next wsX0_next) := goodIn_app (goodIn_of _ (by decide +kernel)) ggL_asked_X0_next
set_option maxRecDepth 20000 in
theorem ggL_asked_X0_mark : GoodIn wsL_asked wsX0_mark := goodIn_ca (goodIn_r _ [31, 7, 8, 9, 5, 10, 11, 12, 13, 14, 15, 16, 17, 18, 32, 33, 34, 35, 27, 23, 24, 25, 26, 57, 58, 59, 60, 61, 62, 63, 64] (by decide +kernel) (by decide +kernel)) (goodIn_sub (fun _ h => List.mem_cons_of_mem _ (List.mem_append_right _ h)) (by decide +kernel))
set_option maxRecDepth 20000 in
theorem gL_asked_X0_mark : GoodIn wsL_asked (wsV RL 38 RX0 yX0_mark wsX0_mark) := goodIn_app (goodIn_of _ (by decide +kernel)) ggL_asked_X0_mark
set_option maxRecDepth 20000 in
theorem ggL_asked_X0_ahead : GoodIn wsL_asked wsX0_ahead := goodIn_ca (goodIn_r _ [39, 7, 8, 9, 5, 10, 11, 12, 13, 14, 15, 16, 17, 18, 32, 33, 34, 35, 27, 23, 24, 25, 26, 40, 41, 42, 43, 57, 58, 59, 60, 61, 62, 63, 64] (by decide +kernel) (by decide +kernel)) (goodIn_sub (fun _ h => List.mem_cons_of_mem _ (List.mem_append_right _ h)) (by decide +kernel))
set_option maxRecDepth 20000 in
theorem gL_asked_X0_ahead : GoodIn wsL_asked (wsV RL 41 RX0 yX0_ahead wsX0_ahead) := goodIn_app (goodIn_of _ (by decide +kernel)) ggL_asked_X0_ahead
set_option maxRecDepth 20000 in
theorem ggL_asked_X0_at : GoodIn wsL_asked wsX0_at := goodIn_ca (goodIn_r _ [47, 48, 49, 50, 5, 51, 11, 12, 57, 58, 59, 60, 61, 62, 63, 64] (by decide +kernel) (by decide +kernel)) (goodIn_sub (fun _ h => List.mem_cons_of_mem _ (List.mem_append_right _ h)) (by decide +kernel))
set_option maxRecDepth 20000 in
theorem gL_asked_X0_at : GoodIn wsL_asked (wsV RL 44 RX0 yX0_at wsX0_at) := goodIn_app (goodIn_of _ (by decide +kernel)) ggL_asked_X0_at
set_option maxRecDepth 20000 in
theorem ggL_asked_X0_read : GoodIn wsL_asked wsX0_read := goodIn_ca (goodIn_r _ [55, 56, 49, 50, 5, 51, 11, 12, 57, 58, 59, 60, 61, 62, 63, 64] (by decide +kernel) (by decide +kernel)) (goodIn_sub (fun _ h => List.mem_cons_of_mem _ (List.mem_append_right _ h)) (by decide +kernel))
set_option maxRecDepth 20000 in
theorem gL_asked_X0_read : GoodIn wsL_asked (wsV RL 47 RX0 yX0_read wsX0_read) := goodIn_app (goodIn_of _ (by decide +kernel)) ggL_asked_X0_read
theorem dL_asked_0 : decode cL_asked 0 = .ok (.iload_n 1, 1) := by decide +kernel
theorem dL_asked_1 : decode cL_asked 1 = .ok (.ifCond .ne 11, 3) := by decide +kernel
theorem dL_asked_4 : decode cL_asked 4 = .ok (.aload_n 0, 1) := by decide +kernel
theorem dL_asked_5 : decode cL_asked 5 = .ok (.iload_n 2, 1) := by decide +kernel
theorem dL_asked_6 : decode cL_asked 6 = .ok (.invokevirtual 35, 3) := by decide +kernel
theorem dL_asked_9 : decode cL_asked 9 = .ok (.goto 47, 3) := by decide +kernel
theorem dL_asked_12 : decode cL_asked 12 = .ok (.iload_n 1, 1) := by decide +kernel
theorem dL_asked_13 : decode cL_asked 13 = .ok (.iconst 1, 1) := by decide +kernel
theorem dL_asked_14 : decode cL_asked 14 = .ok (.if_icmp .ne 11, 3) := by decide +kernel
theorem dL_asked_17 : decode cL_asked 17 = .ok (.aload_n 0, 1) := by decide +kernel
theorem dL_asked_18 : decode cL_asked 18 = .ok (.iload_n 2, 1) := by decide +kernel
theorem dL_asked_19 : decode cL_asked 19 = .ok (.invokevirtual 38, 3) := by decide +kernel
theorem dL_asked_22 : decode cL_asked 22 = .ok (.goto 34, 3) := by decide +kernel
theorem dL_asked_25 : decode cL_asked 25 = .ok (.iload_n 1, 1) := by decide +kernel
theorem dL_asked_26 : decode cL_asked 26 = .ok (.iconst 2, 1) := by decide +kernel
theorem dL_asked_27 : decode cL_asked 27 = .ok (.if_icmp .ne 11, 3) := by decide +kernel
theorem dL_asked_30 : decode cL_asked 30 = .ok (.aload_n 0, 1) := by decide +kernel
theorem dL_asked_31 : decode cL_asked 31 = .ok (.iload_n 2, 1) := by decide +kernel
theorem dL_asked_32 : decode cL_asked 32 = .ok (.invokevirtual 41, 3) := by decide +kernel
theorem dL_asked_35 : decode cL_asked 35 = .ok (.goto 21, 3) := by decide +kernel
theorem dL_asked_38 : decode cL_asked 38 = .ok (.iload_n 1, 1) := by decide +kernel
theorem dL_asked_39 : decode cL_asked 39 = .ok (.iconst 3, 1) := by decide +kernel
theorem dL_asked_40 : decode cL_asked 40 = .ok (.if_icmp .ne 11, 3) := by decide +kernel
theorem dL_asked_43 : decode cL_asked 43 = .ok (.aload_n 0, 1) := by decide +kernel
theorem dL_asked_44 : decode cL_asked 44 = .ok (.iload_n 2, 1) := by decide +kernel
theorem dL_asked_45 : decode cL_asked 45 = .ok (.invokevirtual 44, 3) := by decide +kernel
theorem dL_asked_48 : decode cL_asked 48 = .ok (.goto 8, 3) := by decide +kernel
theorem dL_asked_51 : decode cL_asked 51 = .ok (.aload_n 0, 1) := by decide +kernel
theorem dL_asked_52 : decode cL_asked 52 = .ok (.iload_n 2, 1) := by decide +kernel
theorem dL_asked_53 : decode cL_asked 53 = .ok (.invokevirtual 47, 3) := by decide +kernel
theorem dL_asked_56 : decode cL_asked 56 = .ok (.ireturn, 1) := by decide +kernel
theorem dL_asked_57 : decode cL_asked 57 = .ok (.astore_n 3, 1) := by decide +kernel
theorem dL_asked_58 : decode cL_asked 58 = .ok (.bipush (-60), 2) := by decide +kernel
theorem dL_asked_60 : decode cL_asked 60 = .ok (.ireturn, 1) := by decide +kernel
set_option maxRecDepth 20000 in
theorem ggL_folderAt_X0_first : GoodIn wsL_folderAt wsX0_first := goodIn_r _ [5, 6, 7, 8, 4, 9, 10, 11, 12, 13, 14, 15, 16, 65, 66, 67, 68, 69, 70, 71, 72] (by decide +kernel) (by decide +kernel)
set_option maxRecDepth 20000 in
theorem gL_folderAt_X0_first : GoodIn wsL_folderAt (wsV RL 50 RX0 yX0_first wsX0_first) := goodIn_app (goodIn_of _ (by decide +kernel)) ggL_folderAt_X0_first
set_option maxRecDepth 20000 in
theorem ggL_folderAt_L_asked : GoodIn wsL_folderAt wsL_asked := goodIn_ca (goodIn_r _ [20, 21, 22, 23, 24, 4, 25, 26, 27, 28, 29, 30, 31, 32, 33, 34, 35, 15, 10, 6, 7, 8, 9, 11, 12, 13, 14, 16, 36, 37, 38, 39, 40, 41, 42, 43, 44, 45, 46, 47, 48, 49, 50, 51, 52, 53, 54, 55, 56, 57, 58, 59, 60, 61, 62, 63, 64, 65, 66, 67, 68, 69, 70, 71, 72] (by decide +kernel) (by decide +kernel)) (goodIn_sub (fun _ h => List.mem_cons_of_mem _ (List.mem_append_right _ h)) (by decide +kernel))
set_option maxRecDepth 20000 in
theorem gL_folderAt_L_asked : GoodIn wsL_folderAt (va_wsS RL 53 yL_asked wsL_asked) := goodIn_app (goodIn_of _ (by decide +kernel)) ggL_folderAt_L_asked
theorem dL_folderAt_0 : decode cL_folderAt 0 = .ok (.aload_n 0, 1) := by decide +kernel
theorem dL_folderAt_1 : decode cL_folderAt 1 = .ok (.invokevirtual 50, 3) := by decide +kernel
theorem dL_folderAt_4 : decode cL_folderAt 4 = .ok (.istore_n 2, 1) := by decide +kernel
theorem dL_folderAt_5 : decode cL_folderAt 5 = .ok (.iconst 0, 1) := by decide +kernel
theorem dL_folderAt_6 : decode cL_folderAt 6 = .ok (.istore_n 3, 1) := by decide +kernel
theorem dL_folderAt_7 : decode cL_folderAt 7 = .ok (.iload_n 3, 1) := by decide +kernel
theorem dL_folderAt_8 : decode cL_folderAt 8 = .ok (.iload_n 1, 1) := by decide +kernel
theorem dL_folderAt_9 : decode cL_folderAt 9 = .ok (.if_icmp .ge 21, 3) := by decide +kernel
theorem dL_folderAt_12 : decode cL_folderAt 12 = .ok (.iload_n 2, 1) := by decide +kernel
theorem dL_folderAt_13 : decode cL_folderAt 13 = .ok (.iconst (-1), 1) := by decide +kernel
theorem dL_folderAt_14 : decode cL_folderAt 14 = .ok (.if_icmp .eq 16, 3) := by decide +kernel
theorem dL_folderAt_17 : decode cL_folderAt 17 = .ok (.aload_n 0, 1) := by decide +kernel
theorem dL_folderAt_18 : decode cL_folderAt 18 = .ok (.iconst 0, 1) := by decide +kernel
theorem dL_folderAt_19 : decode cL_folderAt 19 = .ok (.iload_n 2, 1) := by decide +kernel
theorem dL_folderAt_20 : decode cL_folderAt 20 = .ok (.invokestatic 53, 3) := by decide +kernel
theorem dL_folderAt_23 : decode cL_folderAt 23 = .ok (.istore_n 2, 1) := by decide +kernel
theorem dL_folderAt_24 : decode cL_folderAt 24 = .ok (.iinc 3 1, 3) := by decide +kernel
theorem dL_folderAt_27 : decode cL_folderAt 27 = .ok (.goto (-20), 3) := by decide +kernel
theorem dL_folderAt_30 : decode cL_folderAt 30 = .ok (.iload_n 2, 1) := by decide +kernel
theorem dL_folderAt_31 : decode cL_folderAt 31 = .ok (.ireturn, 1) := by decide +kernel
set_option maxRecDepth 20000 in
theorem ggL_passing_X0_size : GoodIn wsL_passing wsX0_size := goodIn_r _ [6, 7, 183, 184, 185, 186, 187, 188, 189, 190] (by decide +kernel) (by decide +kernel)
set_option maxRecDepth 20000 in
theorem gL_passing_X0_size : GoodIn wsL_passing (wsV RL 59 RX0 yX0_size wsX0_size) := goodIn_app (goodIn_of _ (by decide +kernel)) ggL_passing_X0_size
set_option maxRecDepth 20000 in
theorem ggL_passing_L_done : GoodIn wsL_passing wsL_done := goodIn_ca (goodIn_ca (goodIn_ca (goodIn_r _ [11, 12, 13, 14, 15, 16, 17, 5, 18, 19, 20, 21, 22, 23, 24, 25, 7, 26, 27, 28, 29, 30, 31, 32, 33, 34, 35, 36, 37, 38, 39, 40, 41, 42, 43, 44, 45, 46, 47, 48, 49, 50, 51, 52, 53, 54, 55, 56, 57, 58, 59, 60, 61, 62, 63, 64, 65, 66, 67, 68, 69, 70, 71, 72, 73, 74, 75, 76, 77, 78, 79, 80, 81, 82, 83, 84, 85, 86, 87, 88, 89, 90, 91, 92, 93, 94, 95, 96, 97, 98, 99, 100, 101, 102, 103, 104, 105, 106, 107, 108, 109, 110, 111, 112, 113, 114, 115, 116, 117, 118, 119, 120, 121, 122, 123, 124, 125, 126, 127, 128, 129, 130, 131, 132, 133, 134, 135, 136, 137, 138, 139, 140, 141, 142, 143, 144, 145, 146, 147, 148, 149, 150, 151, 183, 184, 185, 186, 187, 188, 189, 190] (by decide +kernel) (by decide +kernel)) (goodIn_sub (fun _ h => List.mem_cons_of_mem _ (List.mem_append_left _ (List.mem_append_left _ (List.mem_append_right _ h)))) (by decide +kernel))) (goodIn_sub (fun _ h => List.mem_cons_of_mem _ (List.mem_append_left _ (List.mem_append_right _ h))) (by decide +kernel))) (goodIn_sub (fun _ h => List.mem_cons_of_mem _ (List.mem_append_right _ h)) (by decide +kernel))
set_option maxRecDepth 20000 in
theorem gL_passing_L_done : GoodIn wsL_passing (va_wsS RL 62 yL_done wsL_done) := goodIn_app (goodIn_of _ (by decide +kernel)) ggL_passing_L_done
set_option maxRecDepth 20000 in
theorem ggL_passing_L_folderAt : GoodIn wsL_passing wsL_folderAt := goodIn_ca (goodIn_r _ [154, 155, 156, 157, 5, 158, 91, 92, 93, 94, 52, 48, 49, 50, 51, 7, 47, 159, 160, 10, 161, 13, 162, 163, 164, 165, 112, 113, 114, 115, 116, 117, 118, 119, 120, 121, 166, 167, 168, 169, 43, 44, 45, 46, 170, 171, 172, 173, 77, 78, 79, 80, 174, 175, 176, 177, 130, 145, 146, 147, 178, 179, 180, 181, 182, 183, 184, 185, 186, 187, 188, 189, 190] (by decide +kernel) (by decide +kernel)) (goodIn_sub (fun _ h => List.mem_cons_of_mem _ (List.mem_append_left _ (List.mem_append_right _ h))) (by decide +kernel))
set_option maxRecDepth 20000 in
theorem gL_passing_L_folderAt : GoodIn wsL_passing (va_wsS RL 66 yL_folderAt wsL_folderAt) := goodIn_app (goodIn_of _ (by decide +kernel)) ggL_passing_L_folderAt
theorem dL_passing_0 : decode cL_passing 0 = .ok (.aload_n 0, 1) := by decide +kernel
theorem dL_passing_1 : decode cL_passing 1 = .ok (.invokevirtual 59, 3) := by decide +kernel
theorem dL_passing_4 : decode cL_passing 4 = .ok (.istore_n 2, 1) := by decide +kernel
theorem dL_passing_5 : decode cL_passing 5 = .ok (.iconst 1, 1) := by decide +kernel
theorem dL_passing_6 : decode cL_passing 6 = .ok (.iload_n 1, 1) := by decide +kernel
theorem dL_passing_7 : decode cL_passing 7 = .ok (.iconst 2, 1) := by decide +kernel
theorem dL_passing_8 : decode cL_passing 8 = .ok (.irem, 1) := by decide +kernel
theorem dL_passing_9 : decode cL_passing 9 = .ok (.iadd, 1) := by decide +kernel
theorem dL_passing_10 : decode cL_passing 10 = .ok (.istore_n 3, 1) := by decide +kernel
theorem dL_passing_11 : decode cL_passing 11 = .ok (.iconst 2, 1) := by decide +kernel
theorem dL_passing_12 : decode cL_passing 12 = .ok (.newarray .int, 2) := by decide +kernel
theorem dL_passing_14 : decode cL_passing 14 = .ok (.astore 4, 2) := by decide +kernel
theorem dL_passing_16 : decode cL_passing 16 = .ok (.iconst 0, 1) := by decide +kernel
theorem dL_passing_17 : decode cL_passing 17 = .ok (.istore 5, 2) := by decide +kernel
theorem dL_passing_19 : decode cL_passing 19 = .ok (.iload 5, 2) := by decide +kernel
theorem dL_passing_21 : decode cL_passing 21 = .ok (.iload_n 3, 1) := by decide +kernel
theorem dL_passing_22 : decode cL_passing 22 = .ok (.if_icmp .ge 51, 3) := by decide +kernel
theorem dL_passing_25 : decode cL_passing 25 = .ok (.iload_n 2, 1) := by decide +kernel
theorem dL_passing_26 : decode cL_passing 26 = .ok (.iload_n 3, 1) := by decide +kernel
theorem dL_passing_27 : decode cL_passing 27 = .ok (.iadd, 1) := by decide +kernel
theorem dL_passing_28 : decode cL_passing 28 = .ok (.bipush 60, 2) := by decide +kernel
theorem dL_passing_30 : decode cL_passing 30 = .ok (.if_icmp .gt 43, 3) := by decide +kernel
theorem dL_passing_33 : decode cL_passing 33 = .ok (.aload 4, 2) := by decide +kernel
theorem dL_passing_35 : decode cL_passing 35 = .ok (.iload 5, 2) := by decide +kernel
theorem dL_passing_37 : decode cL_passing 37 = .ok (.iload_n 2, 1) := by decide +kernel
theorem dL_passing_38 : decode cL_passing 38 = .ok (.ifCond .ne 13, 3) := by decide +kernel
theorem dL_passing_41 : decode cL_passing 41 = .ok (.aload_n 0, 1) := by decide +kernel
theorem dL_passing_42 : decode cL_passing 42 = .ok (.iconst 0, 1) := by decide +kernel
theorem dL_passing_43 : decode cL_passing 43 = .ok (.iconst 0, 1) := by decide +kernel
theorem dL_passing_44 : decode cL_passing 44 = .ok (.iconst 0, 1) := by decide +kernel
theorem dL_passing_45 : decode cL_passing 45 = .ok (.invokestatic 62, 3) := by decide +kernel
theorem dL_passing_48 : decode cL_passing 48 = .ok (.goto 18, 3) := by decide +kernel
theorem dL_passing_51 : decode cL_passing 51 = .ok (.aload_n 0, 1) := by decide +kernel
theorem dL_passing_52 : decode cL_passing 52 = .ok (.iconst 1, 1) := by decide +kernel
theorem dL_passing_53 : decode cL_passing 53 = .ok (.aload_n 0, 1) := by decide +kernel
theorem dL_passing_54 : decode cL_passing 54 = .ok (.iload_n 1, 1) := by decide +kernel
theorem dL_passing_55 : decode cL_passing 55 = .ok (.iconst 4, 1) := by decide +kernel
theorem dL_passing_56 : decode cL_passing 56 = .ok (.idiv, 1) := by decide +kernel
theorem dL_passing_57 : decode cL_passing 57 = .ok (.iload_n 2, 1) := by decide +kernel
theorem dL_passing_58 : decode cL_passing 58 = .ok (.irem, 1) := by decide +kernel
theorem dL_passing_59 : decode cL_passing 59 = .ok (.invokestatic 66, 3) := by decide +kernel
theorem dL_passing_62 : decode cL_passing 62 = .ok (.iconst 0, 1) := by decide +kernel
theorem dL_passing_63 : decode cL_passing 63 = .ok (.invokestatic 62, 3) := by decide +kernel
theorem dL_passing_66 : decode cL_passing 66 = .ok (.iastore, 1) := by decide +kernel
theorem dL_passing_67 : decode cL_passing 67 = .ok (.iinc 5 1, 3) := by decide +kernel
theorem dL_passing_70 : decode cL_passing 70 = .ok (.goto (-51), 3) := by decide +kernel
theorem dL_passing_73 : decode cL_passing 73 = .ok (.iconst 1, 1) := by decide +kernel
theorem dL_passing_74 : decode cL_passing 74 = .ok (.istore 5, 2) := by decide +kernel
theorem dL_passing_76 : decode cL_passing 76 = .ok (.iconst 0, 1) := by decide +kernel
theorem dL_passing_77 : decode cL_passing 77 = .ok (.istore 6, 2) := by decide +kernel
theorem dL_passing_79 : decode cL_passing 79 = .ok (.iload 6, 2) := by decide +kernel
theorem dL_passing_81 : decode cL_passing 81 = .ok (.iload_n 3, 1) := by decide +kernel
theorem dL_passing_82 : decode cL_passing 82 = .ok (.if_icmp .ge 59, 3) := by decide +kernel
theorem dL_passing_85 : decode cL_passing 85 = .ok (.iload_n 2, 1) := by decide +kernel
theorem dL_passing_86 : decode cL_passing 86 = .ok (.iload_n 3, 1) := by decide +kernel
theorem dL_passing_87 : decode cL_passing 87 = .ok (.iadd, 1) := by decide +kernel
theorem dL_passing_88 : decode cL_passing 88 = .ok (.bipush 60, 2) := by decide +kernel
theorem dL_passing_90 : decode cL_passing 90 = .ok (.if_icmp .gt 51, 3) := by decide +kernel
theorem dL_passing_93 : decode cL_passing 93 = .ok (.iload 5, 2) := by decide +kernel
theorem dL_passing_95 : decode cL_passing 95 = .ok (.ifCond .eq 37, 3) := by decide +kernel
theorem dL_passing_98 : decode cL_passing 98 = .ok (.aload 4, 2) := by decide +kernel
theorem dL_passing_100 : decode cL_passing 100 = .ok (.iload 6, 2) := by decide +kernel
theorem dL_passing_102 : decode cL_passing 102 = .ok (.iaload, 1) := by decide +kernel
theorem dL_passing_103 : decode cL_passing 103 = .ok (.ifCond .lt 29, 3) := by decide +kernel
end
section
theorem dL_passing_106 : decode cL_passing 106 = .ok (.aload_n 0, 1) := by decide +kernel
theorem dL_passing_107 : decode cL_passing 107 = .ok (.iconst 2, 1) := by decide +kernel
theorem dL_passing_108 : decode cL_passing 108 = .ok (.aload 4, 2) := by decide +kernel
theorem dL_passing_110 : decode cL_passing 110 = .ok (.iload 6, 2) := by decide +kernel
theorem dL_passing_112 : decode cL_passing 112 = .ok (.iaload, 1) := by decide +kernel
theorem dL_passing_113 : decode cL_passing 113 = .ok (.iconst 0, 1) := by decide +kernel
theorem dL_passing_114 : decode cL_passing 114 = .ok (.invokestatic 62, 3) := by decide +kernel
theorem dL_passing_117 : decode cL_passing 117 = .ok (.iload_n 2, 1) := by decide +kernel
theorem dL_passing_118 : decode cL_passing 118 = .ok (.iload_n 3, 1) := by decide +kernel
theorem dL_passing_119 : decode cL_passing 119 = .ok (.iadd, 1) := by decide +kernel
theorem dL_passing_120 : decode cL_passing 120 = .ok (.iconst 1, 1) := by decide +kernel
theorem dL_passing_121 : decode cL_passing 121 = .ok (.isub, 1) := by decide +kernel
theorem dL_passing_122 : decode cL_passing 122 = .ok (.iload 6, 2) := by decide +kernel
theorem dL_passing_124 : decode cL_passing 124 = .ok (.isub, 1) := by decide +kernel
theorem dL_passing_125 : decode cL_passing 125 = .ok (.if_icmp .ne 7, 3) := by decide +kernel
theorem dL_passing_128 : decode cL_passing 128 = .ok (.iconst 1, 1) := by decide +kernel
theorem dL_passing_129 : decode cL_passing 129 = .ok (.goto 4, 3) := by decide +kernel
theorem dL_passing_132 : decode cL_passing 132 = .ok (.iconst 0, 1) := by decide +kernel
theorem dL_passing_133 : decode cL_passing 133 = .ok (.istore 5, 2) := by decide +kernel
theorem dL_passing_135 : decode cL_passing 135 = .ok (.iinc 6 1, 3) := by decide +kernel
theorem dL_passing_138 : decode cL_passing 138 = .ok (.goto (-59), 3) := by decide +kernel
theorem dL_passing_141 : decode cL_passing 141 = .ok (.iload 5, 2) := by decide +kernel
theorem dL_passing_143 : decode cL_passing 143 = .ok (.ifCond .eq 15, 3) := by decide +kernel
theorem dL_passing_146 : decode cL_passing 146 = .ok (.aload_n 0, 1) := by decide +kernel
theorem dL_passing_147 : decode cL_passing 147 = .ok (.invokevirtual 59, 3) := by decide +kernel
theorem dL_passing_150 : decode cL_passing 150 = .ok (.iload_n 2, 1) := by decide +kernel
theorem dL_passing_151 : decode cL_passing 151 = .ok (.if_icmp .ne 7, 3) := by decide +kernel
theorem dL_passing_154 : decode cL_passing 154 = .ok (.iconst 1, 1) := by decide +kernel
theorem dL_passing_155 : decode cL_passing 155 = .ok (.goto 4, 3) := by decide +kernel
theorem dL_passing_158 : decode cL_passing 158 = .ok (.iconst 0, 1) := by decide +kernel
theorem dL_passing_159 : decode cL_passing 159 = .ok (.ireturn, 1) := by decide +kernel
set_option maxRecDepth 20000 in
theorem ggL_areAlike_X0_first : GoodIn wsL_areAlike wsX0_first := goodIn_r _ [5, 6, 7, 8, 4, 9, 10, 11, 12, 13, 14, 15, 16, 69, 70, 71, 72, 73, 74, 75, 76] (by decide +kernel) (by decide +kernel)
set_option maxRecDepth 20000 in
theorem gL_areAlike_X0_first : GoodIn wsL_areAlike (wsV RL 50 RX0 yX0_first wsX0_first) := goodIn_app (goodIn_of _ (by decide +kernel)) ggL_areAlike_X0_first
set_option maxRecDepth 20000 in
theorem ggL_areAlike_X0_size : GoodIn wsL_areAlike wsX0_size := goodIn_r _ [20, 15, 69, 70, 71, 72, 73, 74, 75, 76] (by decide +kernel) (by decide +kernel)
set_option maxRecDepth 20000 in
theorem gL_areAlike_X0_size : GoodIn wsL_areAlike (wsV RL 59 RX0 yX0_size wsX0_size) := goodIn_app (goodIn_of _ (by decide +kernel)) ggL_areAlike_X0_size
set_option maxRecDepth 20000 in
theorem ggL_areAlike_L_asked : GoodIn wsL_areAlike wsL_asked := goodIn_ca (goodIn_r _ [24, 25, 26, 27, 28, 4, 29, 30, 31, 32, 33, 34, 35, 36, 37, 38, 39, 15, 10, 6, 7, 8, 9, 11, 12, 13, 14, 16, 40, 41, 42, 43, 44, 45, 46, 47, 48, 49, 50, 51, 52, 53, 54, 55, 56, 57, 58, 59, 60, 61, 62, 63, 64, 65, 66, 67, 68, 69, 70, 71, 72, 73, 74, 75, 76] (by decide +kernel) (by decide +kernel)) (goodIn_sub (fun _ h => List.mem_cons_of_mem _ (List.mem_append_right _ h)) (by decide +kernel))
set_option maxRecDepth 20000 in
theorem gL_areAlike_L_asked : GoodIn wsL_areAlike (va_wsS RL 53 yL_asked wsL_asked) := goodIn_app (goodIn_of _ (by decide +kernel)) ggL_areAlike_L_asked
theorem dL_areAlike_0 : decode cL_areAlike 0 = .ok (.aload_n 0, 1) := by decide +kernel
theorem dL_areAlike_1 : decode cL_areAlike 1 = .ok (.invokevirtual 50, 3) := by decide +kernel
theorem dL_areAlike_4 : decode cL_areAlike 4 = .ok (.istore_n 3, 1) := by decide +kernel
theorem dL_areAlike_5 : decode cL_areAlike 5 = .ok (.aload_n 1, 1) := by decide +kernel
theorem dL_areAlike_6 : decode cL_areAlike 6 = .ok (.invokevirtual 50, 3) := by decide +kernel
theorem dL_areAlike_9 : decode cL_areAlike 9 = .ok (.istore 4, 2) := by decide +kernel
theorem dL_areAlike_11 : decode cL_areAlike 11 = .ok (.iconst 0, 1) := by decide +kernel
theorem dL_areAlike_12 : decode cL_areAlike 12 = .ok (.istore 5, 2) := by decide +kernel
theorem dL_areAlike_14 : decode cL_areAlike 14 = .ok (.iconst (-1), 1) := by decide +kernel
theorem dL_areAlike_15 : decode cL_areAlike 15 = .ok (.istore 6, 2) := by decide +kernel
theorem dL_areAlike_17 : decode cL_areAlike 17 = .ok (.aload_n 0, 1) := by decide +kernel
theorem dL_areAlike_18 : decode cL_areAlike 18 = .ok (.invokevirtual 59, 3) := by decide +kernel
theorem dL_areAlike_21 : decode cL_areAlike 21 = .ok (.aload_n 1, 1) := by decide +kernel
theorem dL_areAlike_22 : decode cL_areAlike 22 = .ok (.invokevirtual 59, 3) := by decide +kernel
theorem dL_areAlike_25 : decode cL_areAlike 25 = .ok (.if_icmp .ne 7, 3) := by decide +kernel
theorem dL_areAlike_28 : decode cL_areAlike 28 = .ok (.iconst 1, 1) := by decide +kernel
theorem dL_areAlike_29 : decode cL_areAlike 29 = .ok (.goto 4, 3) := by decide +kernel
theorem dL_areAlike_32 : decode cL_areAlike 32 = .ok (.iconst 0, 1) := by decide +kernel
theorem dL_areAlike_33 : decode cL_areAlike 33 = .ok (.istore 7, 2) := by decide +kernel
theorem dL_areAlike_35 : decode cL_areAlike 35 = .ok (.iload 7, 2) := by decide +kernel
theorem dL_areAlike_37 : decode cL_areAlike 37 = .ok (.ifCond .eq 95, 3) := by decide +kernel
theorem dL_areAlike_40 : decode cL_areAlike 40 = .ok (.iload_n 3, 1) := by decide +kernel
theorem dL_areAlike_41 : decode cL_areAlike 41 = .ok (.iconst (-1), 1) := by decide +kernel
theorem dL_areAlike_42 : decode cL_areAlike 42 = .ok (.if_icmp .eq 90, 3) := by decide +kernel
theorem dL_areAlike_45 : decode cL_areAlike 45 = .ok (.iload 5, 2) := by decide +kernel
theorem dL_areAlike_47 : decode cL_areAlike 47 = .ok (.bipush 61, 2) := by decide +kernel
theorem dL_areAlike_49 : decode cL_areAlike 49 = .ok (.if_icmp .ge 83, 3) := by decide +kernel
theorem dL_areAlike_52 : decode cL_areAlike 52 = .ok (.aload_n 1, 1) := by decide +kernel
theorem dL_areAlike_53 : decode cL_areAlike 53 = .ok (.iconst 1, 1) := by decide +kernel
theorem dL_areAlike_54 : decode cL_areAlike 54 = .ok (.iload 4, 2) := by decide +kernel
theorem dL_areAlike_56 : decode cL_areAlike 56 = .ok (.invokestatic 53, 3) := by decide +kernel
theorem dL_areAlike_59 : decode cL_areAlike 59 = .ok (.istore 8, 2) := by decide +kernel
theorem dL_areAlike_61 : decode cL_areAlike 61 = .ok (.iload 4, 2) := by decide +kernel
theorem dL_areAlike_63 : decode cL_areAlike 63 = .ok (.aload_n 2, 1) := by decide +kernel
theorem dL_areAlike_64 : decode cL_areAlike 64 = .ok (.iload_n 3, 1) := by decide +kernel
theorem dL_areAlike_65 : decode cL_areAlike 65 = .ok (.iaload, 1) := by decide +kernel
theorem dL_areAlike_66 : decode cL_areAlike 66 = .ok (.if_icmp .ne 37, 3) := by decide +kernel
theorem dL_areAlike_69 : decode cL_areAlike 69 = .ok (.aload_n 0, 1) := by decide +kernel
theorem dL_areAlike_70 : decode cL_areAlike 70 = .ok (.iconst 2, 1) := by decide +kernel
theorem dL_areAlike_71 : decode cL_areAlike 71 = .ok (.iload_n 3, 1) := by decide +kernel
theorem dL_areAlike_72 : decode cL_areAlike 72 = .ok (.invokestatic 53, 3) := by decide +kernel
theorem dL_areAlike_75 : decode cL_areAlike 75 = .ok (.iload 5, 2) := by decide +kernel
theorem dL_areAlike_77 : decode cL_areAlike 77 = .ok (.if_icmp .ne 26, 3) := by decide +kernel
theorem dL_areAlike_80 : decode cL_areAlike 80 = .ok (.aload_n 1, 1) := by decide +kernel
theorem dL_areAlike_81 : decode cL_areAlike 81 = .ok (.iconst 2, 1) := by decide +kernel
theorem dL_areAlike_82 : decode cL_areAlike 82 = .ok (.iload 4, 2) := by decide +kernel
theorem dL_areAlike_84 : decode cL_areAlike 84 = .ok (.invokestatic 53, 3) := by decide +kernel
theorem dL_areAlike_87 : decode cL_areAlike 87 = .ok (.iload 5, 2) := by decide +kernel
theorem dL_areAlike_89 : decode cL_areAlike 89 = .ok (.if_icmp .ne 14, 3) := by decide +kernel
theorem dL_areAlike_92 : decode cL_areAlike 92 = .ok (.iload 8, 2) := by decide +kernel
theorem dL_areAlike_94 : decode cL_areAlike 94 = .ok (.iload 6, 2) := by decide +kernel
theorem dL_areAlike_96 : decode cL_areAlike 96 = .ok (.if_icmp .le 7, 3) := by decide +kernel
theorem dL_areAlike_99 : decode cL_areAlike 99 = .ok (.iconst 1, 1) := by decide +kernel
theorem dL_areAlike_100 : decode cL_areAlike 100 = .ok (.goto 4, 3) := by decide +kernel
theorem dL_areAlike_103 : decode cL_areAlike 103 = .ok (.iconst 0, 1) := by decide +kernel
theorem dL_areAlike_104 : decode cL_areAlike 104 = .ok (.istore 7, 2) := by decide +kernel
theorem dL_areAlike_106 : decode cL_areAlike 106 = .ok (.iload 8, 2) := by decide +kernel
theorem dL_areAlike_108 : decode cL_areAlike 108 = .ok (.istore 6, 2) := by decide +kernel
theorem dL_areAlike_110 : decode cL_areAlike 110 = .ok (.aload_n 0, 1) := by decide +kernel
theorem dL_areAlike_111 : decode cL_areAlike 111 = .ok (.iconst 0, 1) := by decide +kernel
theorem dL_areAlike_112 : decode cL_areAlike 112 = .ok (.iload_n 3, 1) := by decide +kernel
theorem dL_areAlike_113 : decode cL_areAlike 113 = .ok (.invokestatic 53, 3) := by decide +kernel
theorem dL_areAlike_116 : decode cL_areAlike 116 = .ok (.istore_n 3, 1) := by decide +kernel
theorem dL_areAlike_117 : decode cL_areAlike 117 = .ok (.aload_n 1, 1) := by decide +kernel
theorem dL_areAlike_118 : decode cL_areAlike 118 = .ok (.iconst 0, 1) := by decide +kernel
theorem dL_areAlike_119 : decode cL_areAlike 119 = .ok (.iload 4, 2) := by decide +kernel
theorem dL_areAlike_121 : decode cL_areAlike 121 = .ok (.invokestatic 53, 3) := by decide +kernel
theorem dL_areAlike_124 : decode cL_areAlike 124 = .ok (.istore 4, 2) := by decide +kernel
theorem dL_areAlike_126 : decode cL_areAlike 126 = .ok (.iinc 5 1, 3) := by decide +kernel
theorem dL_areAlike_129 : decode cL_areAlike 129 = .ok (.goto (-94), 3) := by decide +kernel
theorem dL_areAlike_132 : decode cL_areAlike 132 = .ok (.iload 7, 2) := by decide +kernel
theorem dL_areAlike_134 : decode cL_areAlike 134 = .ok (.ifCond .eq 27, 3) := by decide +kernel
theorem dL_areAlike_137 : decode cL_areAlike 137 = .ok (.iload_n 3, 1) := by decide +kernel
theorem dL_areAlike_138 : decode cL_areAlike 138 = .ok (.iconst (-1), 1) := by decide +kernel
theorem dL_areAlike_139 : decode cL_areAlike 139 = .ok (.if_icmp .ne 22, 3) := by decide +kernel
theorem dL_areAlike_142 : decode cL_areAlike 142 = .ok (.iload 4, 2) := by decide +kernel
theorem dL_areAlike_144 : decode cL_areAlike 144 = .ok (.iconst (-1), 1) := by decide +kernel
theorem dL_areAlike_145 : decode cL_areAlike 145 = .ok (.if_icmp .ne 16, 3) := by decide +kernel
theorem dL_areAlike_148 : decode cL_areAlike 148 = .ok (.iload 5, 2) := by decide +kernel
theorem dL_areAlike_150 : decode cL_areAlike 150 = .ok (.aload_n 0, 1) := by decide +kernel
theorem dL_areAlike_151 : decode cL_areAlike 151 = .ok (.invokevirtual 59, 3) := by decide +kernel
theorem dL_areAlike_154 : decode cL_areAlike 154 = .ok (.if_icmp .ne 7, 3) := by decide +kernel
theorem dL_areAlike_157 : decode cL_areAlike 157 = .ok (.iconst 1, 1) := by decide +kernel
theorem dL_areAlike_158 : decode cL_areAlike 158 = .ok (.goto 4, 3) := by decide +kernel
theorem dL_areAlike_161 : decode cL_areAlike 161 = .ok (.iconst 0, 1) := by decide +kernel
theorem dL_areAlike_162 : decode cL_areAlike 162 = .ok (.istore 7, 2) := by decide +kernel
theorem dL_areAlike_164 : decode cL_areAlike 164 = .ok (.iconst 0, 1) := by decide +kernel
theorem dL_areAlike_165 : decode cL_areAlike 165 = .ok (.istore 8, 2) := by decide +kernel
theorem dL_areAlike_167 : decode cL_areAlike 167 = .ok (.iload 8, 2) := by decide +kernel
theorem dL_areAlike_169 : decode cL_areAlike 169 = .ok (.iconst 4, 1) := by decide +kernel
theorem dL_areAlike_170 : decode cL_areAlike 170 = .ok (.if_icmp .ge 71, 3) := by decide +kernel
theorem dL_areAlike_173 : decode cL_areAlike 173 = .ok (.iload 7, 2) := by decide +kernel
theorem dL_areAlike_175 : decode cL_areAlike 175 = .ok (.ifCond .eq 66, 3) := by decide +kernel
theorem dL_areAlike_178 : decode cL_areAlike 178 = .ok (.aload_n 0, 1) := by decide +kernel
theorem dL_areAlike_179 : decode cL_areAlike 179 = .ok (.iconst 3, 1) := by decide +kernel
theorem dL_areAlike_180 : decode cL_areAlike 180 = .ok (.iload 8, 2) := by decide +kernel
theorem dL_areAlike_182 : decode cL_areAlike 182 = .ok (.invokestatic 53, 3) := by decide +kernel
theorem dL_areAlike_185 : decode cL_areAlike 185 = .ok (.istore 9, 2) := by decide +kernel
theorem dL_areAlike_187 : decode cL_areAlike 187 = .ok (.aload_n 1, 1) := by decide +kernel
theorem dL_areAlike_188 : decode cL_areAlike 188 = .ok (.iconst 3, 1) := by decide +kernel
theorem dL_areAlike_189 : decode cL_areAlike 189 = .ok (.iload 8, 2) := by decide +kernel
theorem dL_areAlike_191 : decode cL_areAlike 191 = .ok (.invokestatic 53, 3) := by decide +kernel
theorem dL_areAlike_194 : decode cL_areAlike 194 = .ok (.iload 9, 2) := by decide +kernel
theorem dL_areAlike_196 : decode cL_areAlike 196 = .ok (.iconst (-1), 1) := by decide +kernel
theorem dL_areAlike_197 : decode cL_areAlike 197 = .ok (.if_icmp .ne 7, 3) := by decide +kernel
theorem dL_areAlike_200 : decode cL_areAlike 200 = .ok (.iconst (-1), 1) := by decide +kernel
theorem dL_areAlike_201 : decode cL_areAlike 201 = .ok (.goto 7, 3) := by decide +kernel
theorem dL_areAlike_204 : decode cL_areAlike 204 = .ok (.aload_n 2, 1) := by decide +kernel
theorem dL_areAlike_205 : decode cL_areAlike 205 = .ok (.iload 9, 2) := by decide +kernel
theorem dL_areAlike_207 : decode cL_areAlike 207 = .ok (.iaload, 1) := by decide +kernel
theorem dL_areAlike_208 : decode cL_areAlike 208 = .ok (.if_icmp .ne 24, 3) := by decide +kernel
theorem dL_areAlike_211 : decode cL_areAlike 211 = .ok (.aload_n 0, 1) := by decide +kernel
theorem dL_areAlike_212 : decode cL_areAlike 212 = .ok (.iconst 4, 1) := by decide +kernel
theorem dL_areAlike_213 : decode cL_areAlike 213 = .ok (.iload 8, 2) := by decide +kernel
theorem dL_areAlike_215 : decode cL_areAlike 215 = .ok (.invokestatic 53, 3) := by decide +kernel
theorem dL_areAlike_218 : decode cL_areAlike 218 = .ok (.aload_n 1, 1) := by decide +kernel
theorem dL_areAlike_219 : decode cL_areAlike 219 = .ok (.iconst 4, 1) := by decide +kernel
theorem dL_areAlike_220 : decode cL_areAlike 220 = .ok (.iload 8, 2) := by decide +kernel
theorem dL_areAlike_222 : decode cL_areAlike 222 = .ok (.invokestatic 53, 3) := by decide +kernel
theorem dL_areAlike_225 : decode cL_areAlike 225 = .ok (.if_icmp .ne 7, 3) := by decide +kernel
theorem dL_areAlike_228 : decode cL_areAlike 228 = .ok (.iconst 1, 1) := by decide +kernel
theorem dL_areAlike_229 : decode cL_areAlike 229 = .ok (.goto 4, 3) := by decide +kernel
theorem dL_areAlike_232 : decode cL_areAlike 232 = .ok (.iconst 0, 1) := by decide +kernel
theorem dL_areAlike_233 : decode cL_areAlike 233 = .ok (.istore 7, 2) := by decide +kernel
theorem dL_areAlike_235 : decode cL_areAlike 235 = .ok (.iinc 8 1, 3) := by decide +kernel
theorem dL_areAlike_238 : decode cL_areAlike 238 = .ok (.goto (-71), 3) := by decide +kernel
theorem dL_areAlike_241 : decode cL_areAlike 241 = .ok (.iload 7, 2) := by decide +kernel
theorem dL_areAlike_243 : decode cL_areAlike 243 = .ok (.ireturn, 1) := by decide +kernel
set_option maxRecDepth 20000 in
theorem ggL_step_X0_size : GoodIn wsL_step wsX0_size := goodIn_r _ [5, 6, 186, 187, 188, 189, 190, 191, 192, 193] (by decide +kernel) (by decide +kernel)
set_option maxRecDepth 20000 in
theorem gL_step_X0_size : GoodIn wsL_step (wsV RL 59 RX0 yX0_size wsX0_size) := goodIn_app (goodIn_of _ (by decide +kernel)) ggL_step_X0_size
set_option maxRecDepth 20000 in
theorem ggL_step_L_folderAt : GoodIn wsL_step wsL_folderAt := goodIn_ca (goodIn_r _ [10, 11, 12, 13, 4, 14, 15, 16, 17, 18, 19, 20, 21, 22, 23, 6, 24, 25, 26, 9, 27, 28, 29, 30, 31, 32, 33, 34, 35, 36, 37, 38, 39, 40, 41, 42, 43, 44, 45, 46, 47, 48, 49, 50, 51, 52, 53, 54, 55, 56, 57, 58, 59, 60, 61, 62, 63, 64, 65, 66, 67, 68, 69, 70, 71, 186, 187, 188, 189, 190, 191, 192, 193] (by decide +kernel) (by decide +kernel)) (goodIn_sub (fun _ h => List.mem_cons_of_mem _ (List.mem_append_left _ (List.mem_append_left _ (List.mem_append_right _ h)))) (by decide +kernel))
set_option maxRecDepth 20000 in
theorem gL_step_L_folderAt : GoodIn wsL_step (va_wsS RL 66 yL_folderAt wsL_folderAt) := goodIn_app (goodIn_of _ (by decide +kernel)) ggL_step_L_folderAt
set_option maxRecDepth 20000 in
theorem ggL_step_L_done : GoodIn wsL_step wsL_done := goodIn_ca (goodIn_ca (goodIn_ca (goodIn_r _ [74, 75, 28, 76, 77, 78, 79, 4, 80, 81, 82, 83, 84, 85, 86, 87, 6, 88, 89, 90, 91, 92, 93, 94, 95, 96, 97, 98, 99, 100, 101, 102, 103, 104, 47, 48, 49, 50, 24, 20, 21, 22, 23, 19, 105, 106, 107, 108, 109, 110, 111, 112, 113, 114, 115, 116, 117, 118, 119, 120, 121, 122, 123, 124, 125, 126, 127, 128, 55, 56, 57, 58, 129, 130, 131, 132, 133, 134, 135, 136, 137, 138, 15, 16, 17, 18, 139, 140, 141, 142, 143, 144, 145, 146, 147, 148, 149, 150, 151, 152, 153, 154, 155, 33, 34, 35, 36, 37, 38, 39, 40, 41, 42, 156, 157, 158, 159, 160, 161, 162, 163, 63, 164, 165, 166, 167, 168, 169, 170, 171, 172, 173, 174, 175, 176, 177, 64, 65, 66, 178, 179, 180, 181, 186, 187, 188, 189, 190, 191, 192, 193] (by decide +kernel) (by decide +kernel)) (goodIn_sub (fun _ h => List.mem_cons_of_mem _ (List.mem_append_left _ (List.mem_append_right _ h))) (by decide +kernel))) (goodIn_sub (fun _ h => List.mem_cons_of_mem _ (List.mem_append_left _ (List.mem_append_left _ (List.mem_append_right _ h)))) (by decide +kernel))) (goodIn_sub (fun _ h => List.mem_cons_of_mem _ (List.mem_append_right _ h)) (by decide +kernel))
set_option maxRecDepth 20000 in
theorem gL_step_L_done : GoodIn wsL_step (va_wsS RL 62 yL_done wsL_done) := goodIn_app (goodIn_of _ (by decide +kernel)) ggL_step_L_done
set_option maxRecDepth 20000 in
theorem ggL_step_X0_passDay : GoodIn wsL_step wsX0_passDay := goodIn_r _ [185, 63, 71, 39, 40, 41, 4, 42, 6, 19, 15, 16, 17, 18, 20, 21, 22, 23, 24, 186, 187, 188, 189, 190, 191, 192, 193] (by decide +kernel) (by decide +kernel)
set_option maxRecDepth 20000 in
theorem gL_step_X0_passDay : GoodIn wsL_step (wsV RL 70 RX0 yX0_passDay wsX0_passDay) := goodIn_app (goodIn_of _ (by decide +kernel)) ggL_step_X0_passDay
theorem dL_step_0 : decode cL_step 0 = .ok (.aload_n 0, 1) := by decide +kernel
theorem dL_step_1 : decode cL_step 1 = .ok (.invokevirtual 59, 3) := by decide +kernel
theorem dL_step_4 : decode cL_step 4 = .ok (.istore 4, 2) := by decide +kernel
theorem dL_step_6 : decode cL_step 6 = .ok (.iload_n 3, 1) := by decide +kernel
theorem dL_step_7 : decode cL_step 7 = .ok (.bipush 12, 2) := by decide +kernel
theorem dL_step_9 : decode cL_step 9 = .ok (.irem, 1) := by decide +kernel
theorem dL_step_10 : decode cL_step 10 = .ok (.istore 5, 2) := by decide +kernel
theorem dL_step_12 : decode cL_step 12 = .ok (.iload_n 3, 1) := by decide +kernel
theorem dL_step_13 : decode cL_step 13 = .ok (.bipush 12, 2) := by decide +kernel
theorem dL_step_15 : decode cL_step 15 = .ok (.idiv, 1) := by decide +kernel
theorem dL_step_16 : decode cL_step 16 = .ok (.istore 6, 2) := by decide +kernel
theorem dL_step_18 : decode cL_step 18 = .ok (.iload 4, 2) := by decide +kernel
theorem dL_step_20 : decode cL_step 20 = .ok (.ifCond .ne 7, 3) := by decide +kernel
theorem dL_step_23 : decode cL_step 23 = .ok (.iconst (-1), 1) := by decide +kernel
theorem dL_step_24 : decode cL_step 24 = .ok (.goto 12, 3) := by decide +kernel
theorem dL_step_27 : decode cL_step 27 = .ok (.aload_n 0, 1) := by decide +kernel
theorem dL_step_28 : decode cL_step 28 = .ok (.iload 6, 2) := by decide +kernel
theorem dL_step_30 : decode cL_step 30 = .ok (.iload 4, 2) := by decide +kernel
theorem dL_step_32 : decode cL_step 32 = .ok (.irem, 1) := by decide +kernel
theorem dL_step_33 : decode cL_step 33 = .ok (.invokestatic 66, 3) := by decide +kernel
theorem dL_step_36 : decode cL_step 36 = .ok (.istore 7, 2) := by decide +kernel
theorem dL_step_38 : decode cL_step 38 = .ok (.iload 4, 2) := by decide +kernel
theorem dL_step_40 : decode cL_step 40 = .ok (.ifCond .eq 8, 3) := by decide +kernel
theorem dL_step_43 : decode cL_step 43 = .ok (.iload 5, 2) := by decide +kernel
theorem dL_step_45 : decode cL_step 45 = .ok (.ifCond .ne 61, 3) := by decide +kernel
theorem dL_step_48 : decode cL_step 48 = .ok (.aload_n 0, 1) := by decide +kernel
theorem dL_step_49 : decode cL_step 49 = .ok (.iconst 0, 1) := by decide +kernel
theorem dL_step_50 : decode cL_step 50 = .ok (.iconst 0, 1) := by decide +kernel
theorem dL_step_51 : decode cL_step 51 = .ok (.iconst 0, 1) := by decide +kernel
theorem dL_step_52 : decode cL_step 52 = .ok (.invokestatic 62, 3) := by decide +kernel
theorem dL_step_55 : decode cL_step 55 = .ok (.istore 8, 2) := by decide +kernel
theorem dL_step_57 : decode cL_step 57 = .ok (.aload_n 1, 1) := by decide +kernel
theorem dL_step_58 : decode cL_step 58 = .ok (.iconst 0, 1) := by decide +kernel
theorem dL_step_59 : decode cL_step 59 = .ok (.iconst 0, 1) := by decide +kernel
theorem dL_step_60 : decode cL_step 60 = .ok (.iconst 0, 1) := by decide +kernel
theorem dL_step_61 : decode cL_step 61 = .ok (.invokestatic 62, 3) := by decide +kernel
theorem dL_step_64 : decode cL_step 64 = .ok (.istore 9, 2) := by decide +kernel
theorem dL_step_66 : decode cL_step 66 = .ok (.iload 8, 2) := by decide +kernel
theorem dL_step_68 : decode cL_step 68 = .ok (.ifCond .lt 9, 3) := by decide +kernel
theorem dL_step_71 : decode cL_step 71 = .ok (.aload_n 2, 1) := by decide +kernel
theorem dL_step_72 : decode cL_step 72 = .ok (.iload 8, 2) := by decide +kernel
theorem dL_step_74 : decode cL_step 74 = .ok (.iload 9, 2) := by decide +kernel
theorem dL_step_76 : decode cL_step 76 = .ok (.iastore, 1) := by decide +kernel
theorem dL_step_77 : decode cL_step 77 = .ok (.iload 8, 2) := by decide +kernel
theorem dL_step_79 : decode cL_step 79 = .ok (.ifCond .ge 7, 3) := by decide +kernel
theorem dL_step_82 : decode cL_step 82 = .ok (.iconst 1, 1) := by decide +kernel
theorem dL_step_83 : decode cL_step 83 = .ok (.goto 4, 3) := by decide +kernel
theorem dL_step_86 : decode cL_step 86 = .ok (.iconst 0, 1) := by decide +kernel
theorem dL_step_87 : decode cL_step 87 = .ok (.iload 9, 2) := by decide +kernel
theorem dL_step_89 : decode cL_step 89 = .ok (.ifCond .ge 7, 3) := by decide +kernel
theorem dL_step_92 : decode cL_step 92 = .ok (.iconst 1, 1) := by decide +kernel
theorem dL_step_93 : decode cL_step 93 = .ok (.goto 4, 3) := by decide +kernel
theorem dL_step_96 : decode cL_step 96 = .ok (.iconst 0, 1) := by decide +kernel
theorem dL_step_97 : decode cL_step 97 = .ok (.if_icmp .ne 7, 3) := by decide +kernel
theorem dL_step_100 : decode cL_step 100 = .ok (.iconst 1, 1) := by decide +kernel
theorem dL_step_101 : decode cL_step 101 = .ok (.goto 4, 3) := by decide +kernel
theorem dL_step_104 : decode cL_step 104 = .ok (.iconst 0, 1) := by decide +kernel
theorem dL_step_105 : decode cL_step 105 = .ok (.ireturn, 1) := by decide +kernel
theorem dL_step_106 : decode cL_step 106 = .ok (.iload 5, 2) := by decide +kernel
theorem dL_step_108 : decode cL_step 108 = .ok (.bipush 7, 2) := by decide +kernel
theorem dL_step_110 : decode cL_step 110 = .ok (.if_icmp .ge 65, 3) := by decide +kernel
theorem dL_step_113 : decode cL_step 113 = .ok (.aload_n 0, 1) := by decide +kernel
theorem dL_step_114 : decode cL_step 114 = .ok (.iconst 1, 1) := by decide +kernel
theorem dL_step_115 : decode cL_step 115 = .ok (.iload 7, 2) := by decide +kernel
theorem dL_step_117 : decode cL_step 117 = .ok (.iconst 0, 1) := by decide +kernel
theorem dL_step_118 : decode cL_step 118 = .ok (.invokestatic 62, 3) := by decide +kernel
theorem dL_step_121 : decode cL_step 121 = .ok (.istore 8, 2) := by decide +kernel
theorem dL_step_123 : decode cL_step 123 = .ok (.aload_n 1, 1) := by decide +kernel
theorem dL_step_124 : decode cL_step 124 = .ok (.iconst 1, 1) := by decide +kernel
theorem dL_step_125 : decode cL_step 125 = .ok (.aload_n 2, 1) := by decide +kernel
theorem dL_step_126 : decode cL_step 126 = .ok (.iload 7, 2) := by decide +kernel
theorem dL_step_128 : decode cL_step 128 = .ok (.iaload, 1) := by decide +kernel
theorem dL_step_129 : decode cL_step 129 = .ok (.iconst 0, 1) := by decide +kernel
theorem dL_step_130 : decode cL_step 130 = .ok (.invokestatic 62, 3) := by decide +kernel
theorem dL_step_133 : decode cL_step 133 = .ok (.istore 9, 2) := by decide +kernel
theorem dL_step_135 : decode cL_step 135 = .ok (.iload 8, 2) := by decide +kernel
theorem dL_step_137 : decode cL_step 137 = .ok (.ifCond .lt 9, 3) := by decide +kernel
theorem dL_step_140 : decode cL_step 140 = .ok (.aload_n 2, 1) := by decide +kernel
theorem dL_step_141 : decode cL_step 141 = .ok (.iload 8, 2) := by decide +kernel
theorem dL_step_143 : decode cL_step 143 = .ok (.iload 9, 2) := by decide +kernel
theorem dL_step_145 : decode cL_step 145 = .ok (.iastore, 1) := by decide +kernel
theorem dL_step_146 : decode cL_step 146 = .ok (.iload 8, 2) := by decide +kernel
theorem dL_step_148 : decode cL_step 148 = .ok (.ifCond .ge 7, 3) := by decide +kernel
theorem dL_step_151 : decode cL_step 151 = .ok (.iconst 1, 1) := by decide +kernel
theorem dL_step_152 : decode cL_step 152 = .ok (.goto 4, 3) := by decide +kernel
theorem dL_step_155 : decode cL_step 155 = .ok (.iconst 0, 1) := by decide +kernel
theorem dL_step_156 : decode cL_step 156 = .ok (.iload 9, 2) := by decide +kernel
theorem dL_step_158 : decode cL_step 158 = .ok (.ifCond .ge 7, 3) := by decide +kernel
theorem dL_step_161 : decode cL_step 161 = .ok (.iconst 1, 1) := by decide +kernel
theorem dL_step_162 : decode cL_step 162 = .ok (.goto 4, 3) := by decide +kernel
theorem dL_step_165 : decode cL_step 165 = .ok (.iconst 0, 1) := by decide +kernel
theorem dL_step_166 : decode cL_step 166 = .ok (.if_icmp .ne 7, 3) := by decide +kernel
theorem dL_step_169 : decode cL_step 169 = .ok (.iconst 1, 1) := by decide +kernel
theorem dL_step_170 : decode cL_step 170 = .ok (.goto 4, 3) := by decide +kernel
theorem dL_step_173 : decode cL_step 173 = .ok (.iconst 0, 1) := by decide +kernel
theorem dL_step_174 : decode cL_step 174 = .ok (.ireturn, 1) := by decide +kernel
theorem dL_step_175 : decode cL_step 175 = .ok (.iload 5, 2) := by decide +kernel
theorem dL_step_177 : decode cL_step 177 = .ok (.bipush 7, 2) := by decide +kernel
theorem dL_step_179 : decode cL_step 179 = .ok (.if_icmp .ne 30, 3) := by decide +kernel
theorem dL_step_182 : decode cL_step 182 = .ok (.aload_n 0, 1) := by decide +kernel
theorem dL_step_183 : decode cL_step 183 = .ok (.iconst 2, 1) := by decide +kernel
theorem dL_step_184 : decode cL_step 184 = .ok (.iload 7, 2) := by decide +kernel
theorem dL_step_186 : decode cL_step 186 = .ok (.iconst 0, 1) := by decide +kernel
theorem dL_step_187 : decode cL_step 187 = .ok (.invokestatic 62, 3) := by decide +kernel
theorem dL_step_190 : decode cL_step 190 = .ok (.aload_n 1, 1) := by decide +kernel
theorem dL_step_191 : decode cL_step 191 = .ok (.iconst 2, 1) := by decide +kernel
theorem dL_step_192 : decode cL_step 192 = .ok (.aload_n 2, 1) := by decide +kernel
theorem dL_step_193 : decode cL_step 193 = .ok (.iload 7, 2) := by decide +kernel
theorem dL_step_195 : decode cL_step 195 = .ok (.iaload, 1) := by decide +kernel
theorem dL_step_196 : decode cL_step 196 = .ok (.iconst 0, 1) := by decide +kernel
theorem dL_step_197 : decode cL_step 197 = .ok (.invokestatic 62, 3) := by decide +kernel
theorem dL_step_200 : decode cL_step 200 = .ok (.if_icmp .ne 7, 3) := by decide +kernel
theorem dL_step_203 : decode cL_step 203 = .ok (.iconst 1, 1) := by decide +kernel
theorem dL_step_204 : decode cL_step 204 = .ok (.goto 4, 3) := by decide +kernel
theorem dL_step_207 : decode cL_step 207 = .ok (.iconst 0, 1) := by decide +kernel
theorem dL_step_208 : decode cL_step 208 = .ok (.ireturn, 1) := by decide +kernel
theorem dL_step_209 : decode cL_step 209 = .ok (.iload 5, 2) := by decide +kernel
theorem dL_step_211 : decode cL_step 211 = .ok (.bipush 8, 2) := by decide +kernel
theorem dL_step_213 : decode cL_step 213 = .ok (.if_icmp .ne 72, 3) := by decide +kernel
theorem dL_step_216 : decode cL_step 216 = .ok (.aload_n 0, 1) := by decide +kernel
theorem dL_step_217 : decode cL_step 217 = .ok (.iload 6, 2) := by decide +kernel
theorem dL_step_219 : decode cL_step 219 = .ok (.bipush 64, 2) := by decide +kernel
theorem dL_step_221 : decode cL_step 221 = .ok (.idiv, 1) := by decide +kernel
theorem dL_step_222 : decode cL_step 222 = .ok (.iload 4, 2) := by decide +kernel
theorem dL_step_224 : decode cL_step 224 = .ok (.irem, 1) := by decide +kernel
theorem dL_step_225 : decode cL_step 225 = .ok (.invokestatic 66, 3) := by decide +kernel
theorem dL_step_228 : decode cL_step 228 = .ok (.istore 8, 2) := by decide +kernel
theorem dL_step_230 : decode cL_step 230 = .ok (.aload_n 0, 1) := by decide +kernel
theorem dL_step_231 : decode cL_step 231 = .ok (.iconst 3, 1) := by decide +kernel
theorem dL_step_232 : decode cL_step 232 = .ok (.iload 7, 2) := by decide +kernel
theorem dL_step_234 : decode cL_step 234 = .ok (.iload 8, 2) := by decide +kernel
theorem dL_step_236 : decode cL_step 236 = .ok (.invokestatic 62, 3) := by decide +kernel
theorem dL_step_239 : decode cL_step 239 = .ok (.istore 9, 2) := by decide +kernel
theorem dL_step_241 : decode cL_step 241 = .ok (.aload_n 1, 1) := by decide +kernel
theorem dL_step_242 : decode cL_step 242 = .ok (.iconst 3, 1) := by decide +kernel
theorem dL_step_243 : decode cL_step 243 = .ok (.aload_n 2, 1) := by decide +kernel
theorem dL_step_244 : decode cL_step 244 = .ok (.iload 7, 2) := by decide +kernel
theorem dL_step_246 : decode cL_step 246 = .ok (.iaload, 1) := by decide +kernel
theorem dL_step_247 : decode cL_step 247 = .ok (.aload_n 2, 1) := by decide +kernel
theorem dL_step_248 : decode cL_step 248 = .ok (.iload 8, 2) := by decide +kernel
theorem dL_step_250 : decode cL_step 250 = .ok (.iaload, 1) := by decide +kernel
theorem dL_step_251 : decode cL_step 251 = .ok (.invokestatic 62, 3) := by decide +kernel
theorem dL_step_254 : decode cL_step 254 = .ok (.istore 10, 2) := by decide +kernel
theorem dL_step_256 : decode cL_step 256 = .ok (.iload 9, 2) := by decide +kernel
theorem dL_step_258 : decode cL_step 258 = .ok (.ifCond .ge 7, 3) := by decide +kernel
theorem dL_step_261 : decode cL_step 261 = .ok (.iconst 1, 1) := by decide +kernel
theorem dL_step_262 : decode cL_step 262 = .ok (.goto 4, 3) := by decide +kernel
theorem dL_step_265 : decode cL_step 265 = .ok (.iconst 0, 1) := by decide +kernel
theorem dL_step_266 : decode cL_step 266 = .ok (.iload 10, 2) := by decide +kernel
theorem dL_step_268 : decode cL_step 268 = .ok (.ifCond .ge 7, 3) := by decide +kernel
theorem dL_step_271 : decode cL_step 271 = .ok (.iconst 1, 1) := by decide +kernel
theorem dL_step_272 : decode cL_step 272 = .ok (.goto 4, 3) := by decide +kernel
theorem dL_step_275 : decode cL_step 275 = .ok (.iconst 0, 1) := by decide +kernel
theorem dL_step_276 : decode cL_step 276 = .ok (.if_icmp .ne 7, 3) := by decide +kernel
theorem dL_step_279 : decode cL_step 279 = .ok (.iconst 1, 1) := by decide +kernel
theorem dL_step_280 : decode cL_step 280 = .ok (.goto 4, 3) := by decide +kernel
theorem dL_step_283 : decode cL_step 283 = .ok (.iconst 0, 1) := by decide +kernel
theorem dL_step_284 : decode cL_step 284 = .ok (.ireturn, 1) := by decide +kernel
theorem dL_step_285 : decode cL_step 285 = .ok (.iload 5, 2) := by decide +kernel
theorem dL_step_287 : decode cL_step 287 = .ok (.bipush 9, 2) := by decide +kernel
theorem dL_step_289 : decode cL_step 289 = .ok (.if_icmp .ne 36, 3) := by decide +kernel
theorem dL_step_292 : decode cL_step 292 = .ok (.aload_n 0, 1) := by decide +kernel
theorem dL_step_293 : decode cL_step 293 = .ok (.iconst 4, 1) := by decide +kernel
theorem dL_step_294 : decode cL_step 294 = .ok (.iload 7, 2) := by decide +kernel
theorem dL_step_296 : decode cL_step 296 = .ok (.iload 6, 2) := by decide +kernel
theorem dL_step_298 : decode cL_step 298 = .ok (.iconst 4, 1) := by decide +kernel
theorem dL_step_299 : decode cL_step 299 = .ok (.irem, 1) := by decide +kernel
theorem dL_step_300 : decode cL_step 300 = .ok (.invokestatic 62, 3) := by decide +kernel
theorem dL_step_303 : decode cL_step 303 = .ok (.aload_n 1, 1) := by decide +kernel
theorem dL_step_304 : decode cL_step 304 = .ok (.iconst 4, 1) := by decide +kernel
theorem dL_step_305 : decode cL_step 305 = .ok (.aload_n 2, 1) := by decide +kernel
theorem dL_step_306 : decode cL_step 306 = .ok (.iload 7, 2) := by decide +kernel
theorem dL_step_308 : decode cL_step 308 = .ok (.iaload, 1) := by decide +kernel
theorem dL_step_309 : decode cL_step 309 = .ok (.iload 6, 2) := by decide +kernel
theorem dL_step_311 : decode cL_step 311 = .ok (.iconst 4, 1) := by decide +kernel
theorem dL_step_312 : decode cL_step 312 = .ok (.irem, 1) := by decide +kernel
theorem dL_step_313 : decode cL_step 313 = .ok (.invokestatic 62, 3) := by decide +kernel
theorem dL_step_316 : decode cL_step 316 = .ok (.if_icmp .ne 7, 3) := by decide +kernel
theorem dL_step_319 : decode cL_step 319 = .ok (.iconst 1, 1) := by decide +kernel
theorem dL_step_320 : decode cL_step 320 = .ok (.goto 4, 3) := by decide +kernel
theorem dL_step_323 : decode cL_step 323 = .ok (.iconst 0, 1) := by decide +kernel
theorem dL_step_324 : decode cL_step 324 = .ok (.ireturn, 1) := by decide +kernel
theorem dL_step_325 : decode cL_step 325 = .ok (.aload_n 0, 1) := by decide +kernel
theorem dL_step_326 : decode cL_step 326 = .ok (.invokevirtual 70, 3) := by decide +kernel
theorem dL_step_329 : decode cL_step 329 = .ok (.aload_n 1, 1) := by decide +kernel
theorem dL_step_330 : decode cL_step 330 = .ok (.invokevirtual 70, 3) := by decide +kernel
theorem dL_step_333 : decode cL_step 333 = .ok (.if_icmp .ne 7, 3) := by decide +kernel
theorem dL_step_336 : decode cL_step 336 = .ok (.iconst 1, 1) := by decide +kernel
theorem dL_step_337 : decode cL_step 337 = .ok (.goto 4, 3) := by decide +kernel
theorem dL_step_340 : decode cL_step 340 = .ok (.iconst 0, 1) := by decide +kernel
theorem dL_step_341 : decode cL_step 341 = .ok (.ireturn, 1) := by decide +kernel
set_option maxRecDepth 20000 in
theorem ggL_law_X0_init : GoodIn wsL_law wsX0_init := goodIn_r _ [6, 7, 8, 9, 3, 10, 11, 12, 13, 14, 15, 208, 209, 210, 211, 212, 213, 214, 215] (by decide +kernel) (by decide +kernel)
set_option maxRecDepth 20000 in
theorem gL_law_X0_init : GoodIn wsL_law (wsX0_init) := ggL_law_X0_init
set_option maxRecDepth 20000 in
theorem ggL_law_L_drawn : GoodIn wsL_law wsL_drawn := goodIn_r _ [19, 20, 21] (by decide +kernel) (by decide +kernel)
set_option maxRecDepth 20000 in
theorem gL_law_L_drawn : GoodIn wsL_law (va_wsS RL 74 yL_drawn wsL_drawn) := goodIn_app (goodIn_of _ (by decide +kernel)) ggL_law_L_drawn
set_option maxRecDepth 20000 in
theorem ggL_law_L_passing : GoodIn wsL_law wsL_passing := goodIn_ca (goodIn_ca (goodIn_ca (goodIn_r _ [24, 3, 25, 26, 27, 2, 28, 29, 30, 31, 18, 32, 33, 34, 35, 36, 37, 38, 39, 40, 41, 42, 43, 44, 45, 46, 47, 48, 49, 50, 51, 52, 53, 54, 55, 56, 57, 58, 59, 60, 61, 62, 63, 64, 65, 66, 67, 11, 68, 69, 70, 71, 10, 72, 73, 74, 75, 12, 76, 77, 78, 79, 80, 81, 82, 83, 84, 85, 86, 87, 88, 89, 90, 91, 92, 93, 94, 95, 96, 97, 98, 99, 100, 101, 102, 103, 104, 105, 106, 107, 108, 109, 110, 111, 112, 113, 114, 115, 116, 117, 118, 119, 120, 121, 122, 123, 124, 13, 125, 126, 127, 128, 129, 130, 131, 132, 133, 134, 135, 136, 137, 138, 139, 140, 141, 142, 143, 144, 145, 146, 14, 147, 148, 149, 150, 151, 152, 153, 154, 155, 156, 157, 158, 159, 160, 161, 162, 163, 164, 165, 166, 167, 168, 169, 170, 171, 172, 173, 174, 175, 176, 177, 178, 179, 180, 181, 182, 183, 184, 185, 186, 187, 188, 189, 190, 191, 192, 193, 194, 195, 196, 197, 15, 208, 209, 210, 211, 212, 213, 214, 215] (by decide +kernel) (by decide +kernel)) (goodIn_sub (fun _ h => List.mem_append_left _ (List.mem_append_left _ (List.mem_append_right _ h))) (by decide +kernel))) (goodIn_sub (fun _ h => List.mem_append_left _ (List.mem_append_right _ h)) (by decide +kernel))) (goodIn_sub (fun _ h => List.mem_append_right _ h) (by decide +kernel))
set_option maxRecDepth 20000 in
theorem gL_law_L_passing : GoodIn wsL_law (va_wsS RL 78 yL_passing wsL_passing) := goodIn_app (goodIn_of _ (by decide +kernel)) ggL_law_L_passing
set_option maxRecDepth 20000 in
theorem ggL_law_L_step : GoodIn wsL_law wsL_step := goodIn_ca (goodIn_ca (goodIn_ca (goodIn_r _ [200, 25, 26, 27, 2, 28, 29, 168, 169, 18, 170, 171, 172, 173, 174, 109, 110, 111, 112, 10, 68, 69, 70, 71, 11, 175, 176, 177, 34, 178, 179, 180, 181, 129, 130, 131, 132, 133, 134, 135, 136, 137, 138, 182, 183, 184, 185, 64, 65, 66, 67, 186, 187, 188, 189, 95, 96, 97, 98, 190, 191, 192, 193, 14, 161, 162, 163, 194, 195, 196, 197, 15, 30, 31, 32, 33, 35, 36, 37, 38, 39, 40, 41, 42, 43, 44, 45, 46, 47, 48, 49, 50, 51, 52, 53, 54, 55, 56, 57, 58, 59, 60, 61, 62, 63, 72, 73, 74, 75, 12, 76, 77, 78, 79, 80, 81, 82, 83, 84, 85, 86, 87, 88, 89, 90, 91, 92, 93, 94, 99, 100, 101, 102, 103, 104, 105, 106, 107, 108, 113, 114, 115, 116, 117, 118, 119, 120, 121, 122, 123, 124, 13, 125, 126, 127, 128, 139, 140, 141, 142, 143, 144, 145, 146, 147, 148, 149, 150, 151, 152, 153, 154, 155, 156, 157, 158, 159, 160, 164, 165, 166, 167, 201, 202, 203, 204, 208, 209, 210, 211, 212, 213, 214, 215] (by decide +kernel) (by decide +kernel)) (goodIn_sub (fun _ h => List.mem_append_left _ (List.mem_append_right _ h)) (by decide +kernel))) (goodIn_sub (fun _ h => List.mem_append_left _ (List.mem_append_left _ (List.mem_append_right _ h))) (by decide +kernel))) (goodIn_sub (fun _ h => List.mem_append_right _ h) (by decide +kernel))
set_option maxRecDepth 20000 in
theorem gL_law_L_step : GoodIn wsL_law (va_wsS RL 82 yL_step wsL_step) := goodIn_app (goodIn_of _ (by decide +kernel)) ggL_law_L_step
set_option maxRecDepth 20000 in
theorem ggL_law_L_areAlike : GoodIn wsL_law wsL_areAlike := goodIn_ca (goodIn_r _ [207, 171, 172, 173, 2, 174, 109, 110, 111, 112, 10, 68, 69, 70, 71, 29, 11, 25, 26, 27, 28, 175, 176, 18, 177, 34, 178, 179, 180, 181, 129, 130, 131, 132, 133, 134, 135, 136, 137, 138, 182, 183, 184, 185, 64, 65, 66, 67, 186, 187, 188, 189, 95, 96, 97, 98, 190, 191, 192, 193, 14, 161, 162, 163, 194, 195, 196, 197, 15, 208, 209, 210, 211, 212, 213, 214, 215] (by decide +kernel) (by decide +kernel)) (goodIn_sub (fun _ h => List.mem_append_left _ (List.mem_append_right _ h)) (by decide +kernel))
set_option maxRecDepth 20000 in
theorem gL_law_L_areAlike : GoodIn wsL_law (va_wsS RL 86 yL_areAlike wsL_areAlike) := goodIn_app (goodIn_of _ (by decide +kernel)) ggL_law_L_areAlike
theorem dL_law_0 : decode cL_law 0 = .ok (.new 10, 3) := by decide +kernel
theorem dL_law_3 : decode cL_law 3 = .ok (.dup, 1) := by decide +kernel
theorem dL_law_4 : decode cL_law 4 = .ok (.invokespecial 73, 3) := by decide +kernel
theorem dL_law_7 : decode cL_law 7 = .ok (.astore_n 1, 1) := by decide +kernel
theorem dL_law_8 : decode cL_law 8 = .ok (.new 10, 3) := by decide +kernel
theorem dL_law_11 : decode cL_law 11 = .ok (.dup, 1) := by decide +kernel
theorem dL_law_12 : decode cL_law 12 = .ok (.invokespecial 73, 3) := by decide +kernel
theorem dL_law_15 : decode cL_law 15 = .ok (.astore_n 2, 1) := by decide +kernel
theorem dL_law_16 : decode cL_law 16 = .ok (.bipush 64, 2) := by decide +kernel
theorem dL_law_18 : decode cL_law 18 = .ok (.newarray .int, 2) := by decide +kernel
theorem dL_law_20 : decode cL_law 20 = .ok (.astore_n 3, 1) := by decide +kernel
theorem dL_law_21 : decode cL_law 21 = .ok (.iconst 1, 1) := by decide +kernel
theorem dL_law_22 : decode cL_law 22 = .ok (.istore 4, 2) := by decide +kernel
theorem dL_law_24 : decode cL_law 24 = .ok (.iconst 0, 1) := by decide +kernel
theorem dL_law_25 : decode cL_law 25 = .ok (.istore 5, 2) := by decide +kernel
theorem dL_law_27 : decode cL_law 27 = .ok (.iload 5, 2) := by decide +kernel
theorem dL_law_29 : decode cL_law 29 = .ok (.bipush 60, 2) := by decide +kernel
theorem dL_law_31 : decode cL_law 31 = .ok (.if_icmp .ge 68, 3) := by decide +kernel
theorem dL_law_34 : decode cL_law 34 = .ok (.iload 4, 2) := by decide +kernel
theorem dL_law_36 : decode cL_law 36 = .ok (.ifCond .eq 63, 3) := by decide +kernel
theorem dL_law_39 : decode cL_law 39 = .ok (.aload_n 0, 1) := by decide +kernel
theorem dL_law_40 : decode cL_law 40 = .ok (.iload 5, 2) := by decide +kernel
theorem dL_law_42 : decode cL_law 42 = .ok (.invokestatic 74, 3) := by decide +kernel
theorem dL_law_45 : decode cL_law 45 = .ok (.istore 6, 2) := by decide +kernel
theorem dL_law_47 : decode cL_law 47 = .ok (.iload 5, 2) := by decide +kernel
theorem dL_law_49 : decode cL_law 49 = .ok (.iconst 3, 1) := by decide +kernel
theorem dL_law_50 : decode cL_law 50 = .ok (.irem, 1) := by decide +kernel
theorem dL_law_51 : decode cL_law 51 = .ok (.ifCond .gt 15, 3) := by decide +kernel
theorem dL_law_54 : decode cL_law 54 = .ok (.aload_n 2, 1) := by decide +kernel
theorem dL_law_55 : decode cL_law 55 = .ok (.iload 6, 2) := by decide +kernel
theorem dL_law_57 : decode cL_law 57 = .ok (.bipush 8, 2) := by decide +kernel
theorem dL_law_59 : decode cL_law 59 = .ok (.idiv, 1) := by decide +kernel
theorem dL_law_60 : decode cL_law 60 = .ok (.invokestatic 78, 3) := by decide +kernel
theorem dL_law_63 : decode cL_law 63 = .ok (.ifCond .eq 27, 3) := by decide +kernel
theorem dL_law_66 : decode cL_law 66 = .ok (.aload_n 1, 1) := by decide +kernel
theorem dL_law_67 : decode cL_law 67 = .ok (.aload_n 2, 1) := by decide +kernel
theorem dL_law_68 : decode cL_law 68 = .ok (.aload_n 3, 1) := by decide +kernel
theorem dL_law_69 : decode cL_law 69 = .ok (.iload 6, 2) := by decide +kernel
theorem dL_law_71 : decode cL_law 71 = .ok (.invokestatic 82, 3) := by decide +kernel
theorem dL_law_74 : decode cL_law 74 = .ok (.ifCond .eq 16, 3) := by decide +kernel
theorem dL_law_77 : decode cL_law 77 = .ok (.aload_n 1, 1) := by decide +kernel
theorem dL_law_78 : decode cL_law 78 = .ok (.aload_n 2, 1) := by decide +kernel
theorem dL_law_79 : decode cL_law 79 = .ok (.aload_n 3, 1) := by decide +kernel
theorem dL_law_80 : decode cL_law 80 = .ok (.invokestatic 86, 3) := by decide +kernel
theorem dL_law_83 : decode cL_law 83 = .ok (.ifCond .eq 7, 3) := by decide +kernel
theorem dL_law_86 : decode cL_law 86 = .ok (.iconst 1, 1) := by decide +kernel
theorem dL_law_87 : decode cL_law 87 = .ok (.goto 4, 3) := by decide +kernel
theorem dL_law_90 : decode cL_law 90 = .ok (.iconst 0, 1) := by decide +kernel
theorem dL_law_91 : decode cL_law 91 = .ok (.istore 4, 2) := by decide +kernel
theorem dL_law_93 : decode cL_law 93 = .ok (.iinc 5 1, 3) := by decide +kernel
theorem dL_law_96 : decode cL_law 96 = .ok (.goto (-69), 3) := by decide +kernel
theorem dL_law_99 : decode cL_law 99 = .ok (.iload 4, 2) := by decide +kernel
theorem dL_law_101 : decode cL_law 101 = .ok (.ireturn, 1) := by decide +kernel
abbrev vwCl : List vw_C := [(RX0, TX0, 8)]
end
section
/-! numbers: an Int32 by the Int that it stands for -/
def iI (n : Int) : Int32 := Int32.ofInt n
theorem iI_add (a b : Int) : iI a + iI b = iI (a + b) := (Int32.ofInt_add a b).symm
theorem iI_sub (a b : Int) : iI a - iI b = iI (a - b) := (Int32.ofInt_sub a b).symm
theorem iI_mul (a b : Int) : iI a * iI b = iI (a * b) := (Int32.ofInt_mul a b).symm
theorem iI_T {a : Int} (h : -2147483648 ≤ a ∧ a ≤ 2147483647) : (iI a).toInt = a := Int32.toInt_ofInt_of_le (by omega) (by omega)
theorem iI_N {a : Int} (h : 0 ≤ a ∧ a ≤ 2147483647) : (iI a).toNatClampNeg = a.toNat := Int32.toNatClampNeg_ofInt_of_le (by omega) (by omega)
theorem iI_of (x : Int32) : ∃ a : Int, (-2147483648 ≤ a ∧ a ≤ 2147483647) ∧ x = iI a :=
  ⟨x.toInt, ⟨by have := Int32.le_toInt x; omega, by have := Int32.toInt_lt x; omega⟩, (Int32.ofInt_toInt x).symm⟩
theorem iI_lt {a b : Int} (ha : -2147483648 ≤ a ∧ a ≤ 2147483647) (hb : -2147483648 ≤ b ∧ b ≤ 2147483647) : iI a < iI b ↔ a < b := by rw [Int32.lt_iff_toInt_lt, iI_T ha, iI_T hb]
theorem iI_le {a b : Int} (ha : -2147483648 ≤ a ∧ a ≤ 2147483647) (hb : -2147483648 ≤ b ∧ b ≤ 2147483647) : iI a ≤ iI b ↔ a ≤ b := by rw [Int32.le_iff_toInt_le, iI_T ha, iI_T hb]
theorem iI_eq {a b : Int} (ha : -2147483648 ≤ a ∧ a ≤ 2147483647) (hb : -2147483648 ≤ b ∧ b ≤ 2147483647) : iI a = iI b ↔ a = b := by rw [← Int32.toInt_inj, iI_T ha, iI_T hb]
theorem iI_0 : iI 0 = 0 := by decide +kernel
theorem iI_nI (n : Nat) : iI (n : Int) = nI n := Int32.ofInt_eq_ofNat
theorem iI_in {a : Int} {n : Nat} (h : 0 ≤ a ∧ a < n) (hn : n ≤ 2147483647) : vp_in (iI a) n := vp_in_iff.mpr (by rw [iI_T (by omega)]; exact h)
theorem iI_div {a b : Int} (ha : 0 ≤ a ∧ a ≤ 2147483647) (hb : 0 < b ∧ b ≤ 2147483647) : iI a / iI b = iI (a / b) := by
  have h1 : Int32.minValue.toInt = -2147483648 := by decide +kernel
  have h2 : Int32.maxValue.toInt = 2147483647 := by decide +kernel
  have h := Int32.ofInt_tdiv (a := a) (b := b) (by omega) (by omega) (by omega) (by omega)
  rw [Int.tdiv_eq_ediv_of_nonneg ha.1] at h
  exact h.symm
theorem iI_s9 : ∀ n, n < 32 → ((nI n &&& 31).toBitVec.smod 32).toNat = n := by decide +kernel
theorem iI_shl {a k : Int} (ha : 0 ≤ a) (hk : 0 ≤ k ∧ k ≤ 30) (h : a * 2 ^ k.toNat ≤ 2147483647) : iI a <<< (iI k &&& 31) = iI (a * 2 ^ k.toNat) := by
  obtain ⟨n, rfl⟩ := Int.eq_ofNat_of_zero_le ha
  obtain ⟨j, rfl⟩ := Int.eq_ofNat_of_zero_le hk.1
  have e : ((n : Int) * 2 ^ (j : Int).toNat) = ((n * 2 ^ j : Nat) : Int) := by simp
  rw [e] at h ⊢
  rw [iI_nI, iI_nI, iI_nI]
  exact pk_shlN (n := n) (nI j &&& 31) j (iI_s9 j (by omega)) (by omega)
theorem iI_shr {a k : Int} (ha : -2147483648 ≤ a ∧ a ≤ 2147483647) (hk : 0 ≤ k ∧ k ≤ 31) : iI a >>> (iI k &&& 31) = iI (a / 2 ^ k.toNat) := by
  obtain ⟨j, rfl⟩ := Int.eq_ofNat_of_zero_le hk.1
  have hd : (0 : Int) < 2 ^ j := Int.pow_pos (by decide)
  have e : (2 : Int) ^ (j : Int).toNat = 2 ^ j := by simp
  rw [e, iI_nI]
  have h1 : -2147483648 ≤ a / 2 ^ j := Int.le_ediv_of_mul_le hd (by generalize (2 : Int) ^ j = d at hd; omega)
  have h2 : a / 2 ^ j < 2147483648 := Int.ediv_lt_of_lt_mul hd (by generalize (2 : Int) ^ j = d at hd; omega)
  refine Int32.toInt_inj.mp ?_
  rw [pk_shr (iI a) (nI j &&& 31) j (iI_s9 j (by omega)), iI_T ha, iI_T ⟨h1, by omega⟩, Int.shiftRight_eq_div_pow]
  simp
/-- an int array holds the numbers F at its first n places -/
def AR (f : Nat → Int32) (n : Int) (F : Int → Int) : Prop := ∀ k : Int, 0 ≤ k → k < n → f k.toNat = iI (F k)
/-- F with v at k -/
def uI (F : Int → Int) (k v : Int) : Int → Int := fun j => if j = k then v else F j
theorem uI_s {F : Int → Int} {k v : Int} : uI F k v k = v := by simp [uI]
theorem uI_n {F : Int → Int} {k v j : Int} (h : j ≠ k) : uI F k v j = F j := by simp [uI, h]
theorem AR_up {f : Nat → Int32} {n : Int} {F : Int → Int} (h : AR f n F) {k v : Int} (hk : 0 ≤ k) : AR (upd f k.toNat (iI v)) n (uI F k v) := by
  intro j h0 h1
  by_cases e : j = k
  · subst e; simp [upd, uI]
  · have : j.toNat ≠ k.toNat := by omega
    simp [upd, uI, e, this, h j h0 h1]
theorem AR_to {f : Nat → Int32} {n m : Int} {F F' : Int → Int} (h : AR f n F) (hm : m ≤ n) (hF : ∀ k, 0 ≤ k → k < m → F k = F' k) : AR f m F' := fun k h0 h1 => by rw [h k h0 (by omega), hF k h0 h1]
theorem AR_ex (f : Nat → Int32) : ∃ F : Int → Int, (∀ k, -2147483648 ≤ F k ∧ F k ≤ 2147483647) ∧ ∀ n, AR f n F := by
  refine ⟨fun k => (f k.toNat).toInt, fun k => ⟨by have := Int32.le_toInt (f k.toNat); dsimp only; omega, by have := Int32.toInt_lt (f k.toNat); dsimp only; omega⟩, fun n k _ _ => (Int32.ofInt_toInt _).symm⟩
/-- what stood at the first n places, and something at all others -/
theorem AR_all {f : Nat → Int32} {n : Int} {F : Int → Int} (h : AR f n F) : ∃ F' : Int → Int, (∀ m, AR f m F') ∧ (∀ k, 0 ≤ k → k < n → F' k = F k) := by
  obtain ⟨F9, hr, h9⟩ := AR_ex f
  refine ⟨fun k => if 0 ≤ k ∧ k < n then F k else F9 k, fun m k h0 h1 => ?_, fun k h0 h1 => by simp [h0, h1]⟩
  by_cases e : k < n
  · simp only [h0, e, and_self, if_true]; exact h k h0 e
  · simp only [e, and_false, if_false]; exact h9 m k h0 h1

section PVR
variable {p : Program} {l : Launch} {e : Env} {R : Room} {s : State} {m : MethodId} {args : Array Value} {below : List Frame} {meth : Method} {c : Code} {H : Heap} {locs : List Loc} {cells slots : Nat} {Q : State → Prop}
variable {cc : ByteArray} {pc : Nat} {ls : Array Slot} {rest : List Value}
theorem pv_iconst (hx : p.tables.exec = Jvm.exec) (hb : c.code = cc) {n : Int} (d : decode cc pc = .ok (.iconst n, 1)) (k : W p l e R s m args below meth c H locs cells slots Q (F0 m (pc + 1) ls (.int (iI n) :: rest))) : W p l e R s m args below meth c H locs cells slots Q (F0 m pc ls rest) := lv_iconst (v := iI n) hx hb d rfl k
theorem pv_bipush (hx : p.tables.exec = Jvm.exec) (hb : c.code = cc) {n : Int} (d : decode cc pc = .ok (.bipush n, 2)) (hv : (Int8.ofInt n).toInt32 = iI n) (k : W p l e R s m args below meth c H locs cells slots Q (F0 m (pc + 2) ls (.int (iI n) :: rest))) : W p l e R s m args below meth c H locs cells slots Q (F0 m pc ls rest) := lv_bipush (v := iI n) hx hb d hv k
theorem pv_sipush (hx : p.tables.exec = Jvm.exec) (hb : c.code = cc) {n : Int} (d : decode cc pc = .ok (.sipush n, 3)) (hv : (Int16.ofInt n).toInt32 = iI n) (k : W p l e R s m args below meth c H locs cells slots Q (F0 m (pc + 3) ls (.int (iI n) :: rest))) : W p l e R s m args below meth c H locs cells slots Q (F0 m pc ls rest) := lv_sipush (v := iI n) hx hb d hv k
theorem pv_iadd (hx : p.tables.exec = Jvm.exec) (hb : c.code = cc) {a b : Int} (d : decode cc pc = .ok (.iadd, 1)) (k : W p l e R s m args below meth c H locs cells slots Q (F0 m (pc + 1) ls (.int (iI (a + b)) :: rest))) : W p l e R s m args below meth c H locs cells slots Q (F0 m pc ls (.int (iI b) :: .int (iI a) :: rest)) := by
  refine lv_iadd hx hb d ?_
  rw [iI_add]
  exact k
theorem pv_isub (hx : p.tables.exec = Jvm.exec) (hb : c.code = cc) {a b : Int} (d : decode cc pc = .ok (.isub, 1)) (k : W p l e R s m args below meth c H locs cells slots Q (F0 m (pc + 1) ls (.int (iI (a - b)) :: rest))) : W p l e R s m args below meth c H locs cells slots Q (F0 m pc ls (.int (iI b) :: .int (iI a) :: rest)) := by
  refine lv_isub hx hb d ?_
  rw [iI_sub]
  exact k
theorem pv_imul (hx : p.tables.exec = Jvm.exec) (hb : c.code = cc) {a b : Int} (d : decode cc pc = .ok (.imul, 1)) (k : W p l e R s m args below meth c H locs cells slots Q (F0 m (pc + 1) ls (.int (iI (a * b)) :: rest))) : W p l e R s m args below meth c H locs cells slots Q (F0 m pc ls (.int (iI b) :: .int (iI a) :: rest)) := by
  refine lv_imul hx hb d ?_
  rw [iI_mul]
  exact k
theorem pv_idiv (hx : p.tables.exec = Jvm.exec) (hb : c.code = cc) {a b : Int} (d : decode cc pc = .ok (.idiv, 1)) (ha : 0 ≤ a ∧ a ≤ 2147483647) (hb9 : 0 < b ∧ b ≤ 2147483647) (k : W p l e R s m args below meth c H locs cells slots Q (F0 m (pc + 1) ls (.int (iI (a / b)) :: rest))) : W p l e R s m args below meth c H locs cells slots Q (F0 m pc ls (.int (iI b) :: .int (iI a) :: rest)) := by
  refine lv_idiv hx hb d (fun h => ?_) ?_
  · have := (iI_eq (a := b) (b := 0) (by omega) (by omega)).mp (h.trans iI_0.symm)
    omega
  · rw [iI_div ha hb9]
    exact k
theorem pv_ishl (hx : p.tables.exec = Jvm.exec) (hb : c.code = cc) {a b : Int} (d : decode cc pc = .ok (.ishl, 1)) (ha : 0 ≤ a) (hk : 0 ≤ b ∧ b ≤ 30) (h : a * 2 ^ b.toNat ≤ 2147483647) (k : W p l e R s m args below meth c H locs cells slots Q (F0 m (pc + 1) ls (.int (iI (a * 2 ^ b.toNat)) :: rest))) : W p l e R s m args below meth c H locs cells slots Q (F0 m pc ls (.int (iI b) :: .int (iI a) :: rest)) := by
  refine lv_ishl hx hb d ?_
  rw [iI_shl ha hk h]
  exact k
theorem pv_ishr (hx : p.tables.exec = Jvm.exec) (hb : c.code = cc) {a b : Int} (d : decode cc pc = .ok (.ishr, 1)) (ha : (-2147483648 ≤ a ∧ a ≤ 2147483647)) (hk : 0 ≤ b ∧ b ≤ 31) (k : W p l e R s m args below meth c H locs cells slots Q (F0 m (pc + 1) ls (.int (iI (a / 2 ^ b.toNat)) :: rest))) : W p l e R s m args below meth c H locs cells slots Q (F0 m pc ls (.int (iI b) :: .int (iI a) :: rest)) := by
  refine lv_ishr hx hb d ?_
  rw [iI_shr ha hk]
  exact k
theorem pv_icmp_eq (hx : p.tables.exec = Jvm.exec) (hb : c.code = cc) {a b : Int} {off : Int} {tgt : Nat} (d : decode cc pc = .ok (.if_icmp .eq off, 3)) (ht : (pc : Int) + off = (tgt : Int)) (hr : (-2147483648 ≤ a ∧ a ≤ 2147483647) ∧ (-2147483648 ≤ b ∧ b ≤ 2147483647)) (kt : a = b → W p l e R s m args below meth c H locs cells slots Q (F0 m tgt ls rest)) (kf : a ≠ b → W p l e R s m args below meth c H locs cells slots Q (F0 m (pc + 3) ls rest)) : W p l e R s m args below meth c H locs cells slots Q (F0 m pc ls (.int (iI b) :: .int (iI a) :: rest)) := by
  refine lv_icmp_eq hx hb d ht (fun h => kt ?_) (fun h => kf ?_)
  all_goals
    first
      | rw [iI_eq hr.1 hr.2] at h
      | rw [iI_lt hr.1 hr.2] at h
      | rw [iI_lt hr.2 hr.1] at h
      | rw [iI_le hr.1 hr.2] at h
      | rw [iI_le hr.2 hr.1] at h
    omega
theorem pv_if_eq (hx : p.tables.exec = Jvm.exec) (hb : c.code = cc) {a : Int} {off : Int} {tgt : Nat} (d : decode cc pc = .ok (.ifCond .eq off, 3)) (ht : (pc : Int) + off = (tgt : Int)) (hr : (-2147483648 ≤ a ∧ a ≤ 2147483647)) (kt : a = 0 → W p l e R s m args below meth c H locs cells slots Q (F0 m tgt ls rest)) (kf : a ≠ 0 → W p l e R s m args below meth c H locs cells slots Q (F0 m (pc + 3) ls rest)) : W p l e R s m args below meth c H locs cells slots Q (F0 m pc ls (.int (iI a) :: rest)) := by
  have h0 : (-2147483648 : Int) ≤ 0 ∧ (0 : Int) ≤ 2147483647 := by omega
  refine lv_if_eq hx hb d ht (fun h => kt ?_) (fun h => kf ?_)
  all_goals
    rw [← iI_0] at h
    first
      | rw [iI_eq hr h0] at h
      | rw [iI_lt hr h0] at h
      | rw [iI_lt h0 hr] at h
      | rw [iI_le hr h0] at h
      | rw [iI_le h0 hr] at h
    omega
theorem pv_icmp_ne (hx : p.tables.exec = Jvm.exec) (hb : c.code = cc) {a b : Int} {off : Int} {tgt : Nat} (d : decode cc pc = .ok (.if_icmp .ne off, 3)) (ht : (pc : Int) + off = (tgt : Int)) (hr : (-2147483648 ≤ a ∧ a ≤ 2147483647) ∧ (-2147483648 ≤ b ∧ b ≤ 2147483647)) (kt : a ≠ b → W p l e R s m args below meth c H locs cells slots Q (F0 m tgt ls rest)) (kf : a = b → W p l e R s m args below meth c H locs cells slots Q (F0 m (pc + 3) ls rest)) : W p l e R s m args below meth c H locs cells slots Q (F0 m pc ls (.int (iI b) :: .int (iI a) :: rest)) := by
  refine lv_icmp_ne hx hb d ht (fun h => kt ?_) (fun h => kf ?_)
  all_goals
    first
      | rw [iI_eq hr.1 hr.2] at h
      | rw [iI_lt hr.1 hr.2] at h
      | rw [iI_lt hr.2 hr.1] at h
      | rw [iI_le hr.1 hr.2] at h
      | rw [iI_le hr.2 hr.1] at h
    omega
theorem pv_if_ne (hx : p.tables.exec = Jvm.exec) (hb : c.code = cc) {a : Int} {off : Int} {tgt : Nat} (d : decode cc pc = .ok (.ifCond .ne off, 3)) (ht : (pc : Int) + off = (tgt : Int)) (hr : (-2147483648 ≤ a ∧ a ≤ 2147483647)) (kt : a ≠ 0 → W p l e R s m args below meth c H locs cells slots Q (F0 m tgt ls rest)) (kf : a = 0 → W p l e R s m args below meth c H locs cells slots Q (F0 m (pc + 3) ls rest)) : W p l e R s m args below meth c H locs cells slots Q (F0 m pc ls (.int (iI a) :: rest)) := by
  have h0 : (-2147483648 : Int) ≤ 0 ∧ (0 : Int) ≤ 2147483647 := by omega
  refine lv_if_ne hx hb d ht (fun h => kt ?_) (fun h => kf ?_)
  all_goals
    rw [← iI_0] at h
    first
      | rw [iI_eq hr h0] at h
      | rw [iI_lt hr h0] at h
      | rw [iI_lt h0 hr] at h
      | rw [iI_le hr h0] at h
      | rw [iI_le h0 hr] at h
    omega
theorem pv_icmp_lt (hx : p.tables.exec = Jvm.exec) (hb : c.code = cc) {a b : Int} {off : Int} {tgt : Nat} (d : decode cc pc = .ok (.if_icmp .lt off, 3)) (ht : (pc : Int) + off = (tgt : Int)) (hr : (-2147483648 ≤ a ∧ a ≤ 2147483647) ∧ (-2147483648 ≤ b ∧ b ≤ 2147483647)) (kt : a < b → W p l e R s m args below meth c H locs cells slots Q (F0 m tgt ls rest)) (kf : b ≤ a → W p l e R s m args below meth c H locs cells slots Q (F0 m (pc + 3) ls rest)) : W p l e R s m args below meth c H locs cells slots Q (F0 m pc ls (.int (iI b) :: .int (iI a) :: rest)) := by
  refine lv_icmp_lt hx hb d ht (fun h => kt ?_) (fun h => kf ?_)
  all_goals
    first
      | rw [iI_eq hr.1 hr.2] at h
      | rw [iI_lt hr.1 hr.2] at h
      | rw [iI_lt hr.2 hr.1] at h
      | rw [iI_le hr.1 hr.2] at h
      | rw [iI_le hr.2 hr.1] at h
    omega
theorem pv_if_lt (hx : p.tables.exec = Jvm.exec) (hb : c.code = cc) {a : Int} {off : Int} {tgt : Nat} (d : decode cc pc = .ok (.ifCond .lt off, 3)) (ht : (pc : Int) + off = (tgt : Int)) (hr : (-2147483648 ≤ a ∧ a ≤ 2147483647)) (kt : a < 0 → W p l e R s m args below meth c H locs cells slots Q (F0 m tgt ls rest)) (kf : 0 ≤ a → W p l e R s m args below meth c H locs cells slots Q (F0 m (pc + 3) ls rest)) : W p l e R s m args below meth c H locs cells slots Q (F0 m pc ls (.int (iI a) :: rest)) := by
  have h0 : (-2147483648 : Int) ≤ 0 ∧ (0 : Int) ≤ 2147483647 := by omega
  refine lv_if_lt hx hb d ht (fun h => kt ?_) (fun h => kf ?_)
  all_goals
    rw [← iI_0] at h
    first
      | rw [iI_eq hr h0] at h
      | rw [iI_lt hr h0] at h
      | rw [iI_lt h0 hr] at h
      | rw [iI_le hr h0] at h
      | rw [iI_le h0 hr] at h
    omega
theorem pv_icmp_ge (hx : p.tables.exec = Jvm.exec) (hb : c.code = cc) {a b : Int} {off : Int} {tgt : Nat} (d : decode cc pc = .ok (.if_icmp .ge off, 3)) (ht : (pc : Int) + off = (tgt : Int)) (hr : (-2147483648 ≤ a ∧ a ≤ 2147483647) ∧ (-2147483648 ≤ b ∧ b ≤ 2147483647)) (kt : b ≤ a → W p l e R s m args below meth c H locs cells slots Q (F0 m tgt ls rest)) (kf : a < b → W p l e R s m args below meth c H locs cells slots Q (F0 m (pc + 3) ls rest)) : W p l e R s m args below meth c H locs cells slots Q (F0 m pc ls (.int (iI b) :: .int (iI a) :: rest)) := by
  refine lv_icmp_ge hx hb d ht (fun h => kt ?_) (fun h => kf ?_)
  all_goals
    first
      | rw [iI_eq hr.1 hr.2] at h
      | rw [iI_lt hr.1 hr.2] at h
      | rw [iI_lt hr.2 hr.1] at h
      | rw [iI_le hr.1 hr.2] at h
      | rw [iI_le hr.2 hr.1] at h
    omega
theorem pv_if_ge (hx : p.tables.exec = Jvm.exec) (hb : c.code = cc) {a : Int} {off : Int} {tgt : Nat} (d : decode cc pc = .ok (.ifCond .ge off, 3)) (ht : (pc : Int) + off = (tgt : Int)) (hr : (-2147483648 ≤ a ∧ a ≤ 2147483647)) (kt : 0 ≤ a → W p l e R s m args below meth c H locs cells slots Q (F0 m tgt ls rest)) (kf : a < 0 → W p l e R s m args below meth c H locs cells slots Q (F0 m (pc + 3) ls rest)) : W p l e R s m args below meth c H locs cells slots Q (F0 m pc ls (.int (iI a) :: rest)) := by
  have h0 : (-2147483648 : Int) ≤ 0 ∧ (0 : Int) ≤ 2147483647 := by omega
  refine lv_if_ge hx hb d ht (fun h => kt ?_) (fun h => kf ?_)
  all_goals
    rw [← iI_0] at h
    first
      | rw [iI_eq hr h0] at h
      | rw [iI_lt hr h0] at h
      | rw [iI_lt h0 hr] at h
      | rw [iI_le hr h0] at h
      | rw [iI_le h0 hr] at h
    omega
theorem pv_icmp_gt (hx : p.tables.exec = Jvm.exec) (hb : c.code = cc) {a b : Int} {off : Int} {tgt : Nat} (d : decode cc pc = .ok (.if_icmp .gt off, 3)) (ht : (pc : Int) + off = (tgt : Int)) (hr : (-2147483648 ≤ a ∧ a ≤ 2147483647) ∧ (-2147483648 ≤ b ∧ b ≤ 2147483647)) (kt : b < a → W p l e R s m args below meth c H locs cells slots Q (F0 m tgt ls rest)) (kf : a ≤ b → W p l e R s m args below meth c H locs cells slots Q (F0 m (pc + 3) ls rest)) : W p l e R s m args below meth c H locs cells slots Q (F0 m pc ls (.int (iI b) :: .int (iI a) :: rest)) := by
  refine lv_icmp_gt hx hb d ht (fun h => kt ?_) (fun h => kf ?_)
  all_goals
    first
      | rw [iI_eq hr.1 hr.2] at h
      | rw [iI_lt hr.1 hr.2] at h
      | rw [iI_lt hr.2 hr.1] at h
      | rw [iI_le hr.1 hr.2] at h
      | rw [iI_le hr.2 hr.1] at h
    omega
theorem pv_if_gt (hx : p.tables.exec = Jvm.exec) (hb : c.code = cc) {a : Int} {off : Int} {tgt : Nat} (d : decode cc pc = .ok (.ifCond .gt off, 3)) (ht : (pc : Int) + off = (tgt : Int)) (hr : (-2147483648 ≤ a ∧ a ≤ 2147483647)) (kt : 0 < a → W p l e R s m args below meth c H locs cells slots Q (F0 m tgt ls rest)) (kf : a ≤ 0 → W p l e R s m args below meth c H locs cells slots Q (F0 m (pc + 3) ls rest)) : W p l e R s m args below meth c H locs cells slots Q (F0 m pc ls (.int (iI a) :: rest)) := by
  have h0 : (-2147483648 : Int) ≤ 0 ∧ (0 : Int) ≤ 2147483647 := by omega
  refine lv_if_gt hx hb d ht (fun h => kt ?_) (fun h => kf ?_)
  all_goals
    rw [← iI_0] at h
    first
      | rw [iI_eq hr h0] at h
      | rw [iI_lt hr h0] at h
      | rw [iI_lt h0 hr] at h
      | rw [iI_le hr h0] at h
      | rw [iI_le h0 hr] at h
    omega
theorem pv_icmp_le (hx : p.tables.exec = Jvm.exec) (hb : c.code = cc) {a b : Int} {off : Int} {tgt : Nat} (d : decode cc pc = .ok (.if_icmp .le off, 3)) (ht : (pc : Int) + off = (tgt : Int)) (hr : (-2147483648 ≤ a ∧ a ≤ 2147483647) ∧ (-2147483648 ≤ b ∧ b ≤ 2147483647)) (kt : a ≤ b → W p l e R s m args below meth c H locs cells slots Q (F0 m tgt ls rest)) (kf : b < a → W p l e R s m args below meth c H locs cells slots Q (F0 m (pc + 3) ls rest)) : W p l e R s m args below meth c H locs cells slots Q (F0 m pc ls (.int (iI b) :: .int (iI a) :: rest)) := by
  refine lv_icmp_le hx hb d ht (fun h => kt ?_) (fun h => kf ?_)
  all_goals
    first
      | rw [iI_eq hr.1 hr.2] at h
      | rw [iI_lt hr.1 hr.2] at h
      | rw [iI_lt hr.2 hr.1] at h
      | rw [iI_le hr.1 hr.2] at h
      | rw [iI_le hr.2 hr.1] at h
    omega
theorem pv_if_le (hx : p.tables.exec = Jvm.exec) (hb : c.code = cc) {a : Int} {off : Int} {tgt : Nat} (d : decode cc pc = .ok (.ifCond .le off, 3)) (ht : (pc : Int) + off = (tgt : Int)) (hr : (-2147483648 ≤ a ∧ a ≤ 2147483647)) (kt : a ≤ 0 → W p l e R s m args below meth c H locs cells slots Q (F0 m tgt ls rest)) (kf : 0 < a → W p l e R s m args below meth c H locs cells slots Q (F0 m (pc + 3) ls rest)) : W p l e R s m args below meth c H locs cells slots Q (F0 m pc ls (.int (iI a) :: rest)) := by
  have h0 : (-2147483648 : Int) ≤ 0 ∧ (0 : Int) ≤ 2147483647 := by omega
  refine lv_if_le hx hb d ht (fun h => kt ?_) (fun h => kf ?_)
  all_goals
    rw [← iI_0] at h
    first
      | rw [iI_eq hr h0] at h
      | rw [iI_lt hr h0] at h
      | rw [iI_lt h0 hr] at h
      | rw [iI_le hr h0] at h
      | rw [iI_le h0 hr] at h
    omega
theorem pv_iinc (hx : p.tables.exec = Jvm.exec) (hb : c.code = cc) {i nL k : Nat} {n a : Int} {lv lv' : List (Nat × Value)} (d : decode cc pc = .ok (.iinc i n, 3)) (h : lv_has ls nL lv) (hk : lv[k]? = some (i, .int (iI a))) (hn : i < nL) (hl : (i, Value.int (iI (a + n))) :: lv.filter (fun q => !(q.1 == i) && !(q.1 + 1 == i && q.2.category == 2)) = lv')
    (kk : ∀ ls' : Array Slot, lv_has ls' nL lv' → W p l e R s m args below meth c H locs cells slots Q (F0 m (pc + 3) ls' rest)) : W p l e R s m args below meth c H locs cells slots Q (F0 m pc ls rest) := lv_iinc (v := iI (a + n)) hx hb d h hk (iI_add a n) hn hl kk
end PVR
section PVW
variable {p : Program} {l : Launch} {e : Env} {R : Room} {s : State} {m : MethodId} {args : Array Value} {below : List Frame} {meth : Method} {c : Code} {H : Heap} {locs : List Loc} {cells slots : Nat} {Q : State → Prop}
variable {cc : ByteArray} {pc : Nat} {ls : Array Slot} {rest : List Value} {D : va_G} {cl : List vw_C} {ws : va_W} {tys : List (ClassId × FieldType)} {a : Nat} {A : Nat → Prop} {H0 : Heap}
theorem pv_iald (hx : p.tables.exec = Jvm.exec) (hb : c.code = cc) (hK : va_K D cl tys s) (hP : va_P D cl ws H) (q0 t0 : Nat) {cA : ClassId} {n : Nat} {f : Nat → Int32} (ha : ws[q0]? = some (a, .inl (cA, n, .inl f))) (ht : tys[t0]? = some (cA, .int)) {i : Int} {v : Int} (hi : 0 ≤ i ∧ i < n) (hn : n ≤ 2147483647) (hv : f i.toNat = iI v) (d : decode cc pc = .ok (.iaload, 1))
    (kk : W p l e R s m args below meth c H locs cells slots Q (F0 m (pc + 1) ls (.int (iI v) :: rest))) : W p l e R s m args below meth c H locs cells slots Q (F0 m pc ls (.int (iI i) :: .ref a :: rest)) := by
  refine va_iald hx hb hK hP q0 t0 ha ht (iI_in hi hn) d ?_
  rw [iI_N ⟨hi.1, by omega⟩, hv]
  exact kk
theorem pv_zald (hx : p.tables.exec = Jvm.exec) (hb : c.code = cc) (hK : va_K D cl tys s) (hP : va_P D cl ws H) (q0 t0 : Nat) {cA : ClassId} {n : Nat} {f : Nat → Int32} (ha : ws[q0]? = some (a, .inl (cA, n, .inl f))) (ht : tys[t0]? = some (cA, .boolean)) {i : Int} {v : Int} (hi : 0 ≤ i ∧ i < n) (hn : n ≤ 2147483647) (hv : f i.toNat = iI v) (d : decode cc pc = .ok (.baload, 1))
    (kk : W p l e R s m args below meth c H locs cells slots Q (F0 m (pc + 1) ls (.int (iI v) :: rest))) : W p l e R s m args below meth c H locs cells slots Q (F0 m pc ls (.int (iI i) :: .ref a :: rest)) := by
  refine va_zald hx hb hK hP q0 t0 ha ht (iI_in hi hn) d ?_
  rw [iI_N ⟨hi.1, by omega⟩, hv]
  exact kk
theorem pv_iast (hx : p.tables.exec = Jvm.exec) (hb : c.code = cc) (hK : va_K D cl tys s) (hP : va_P D cl ws H) (hD : va_D A ws) (hS : va_S A H0 H locs) (q0 t0 : Nat) {cA : ClassId} {n : Nat} {f : Nat → Int32} (ha : ws[q0]? = some (a, .inl (cA, n, .inl f))) (ht : tys[t0]? = some (cA, .int)) {i : Int} {v : Int} (hi : 0 ≤ i ∧ i < n) (hn : n ≤ 2147483647) (d : decode cc pc = .ok (.iastore, 1))
    (kk : ∀ (H1 : Heap) (locs1 : List Loc), va_P D cl (ws.set q0 (a, .inl (cA, n, .inl (upd f i.toNat (iI v))))) H1 → va_D A (ws.set q0 (a, .inl (cA, n, .inl (upd f i.toNat (iI v))))) → va_S A H0 H1 locs1 → W p l e R s m args below meth c H1 locs1 cells slots Q (F0 m (pc + 1) ls rest)) : W p l e R s m args below meth c H locs cells slots Q (F0 m pc ls (.int (iI v) :: .int (iI i) :: .ref a :: rest)) := by
  refine va_iast hx hb hK hP hD hS q0 t0 ha ht (iI_in hi hn) d ?_
  rw [iI_N ⟨hi.1, by omega⟩]
  exact kk
theorem pv_zast (hx : p.tables.exec = Jvm.exec) (hb : c.code = cc) (hK : va_K D cl tys s) (hP : va_P D cl ws H) (hD : va_D A ws) (hS : va_S A H0 H locs) (q0 t0 : Nat) {cA : ClassId} {n : Nat} {f : Nat → Int32} (ha : ws[q0]? = some (a, .inl (cA, n, .inl f))) (ht : tys[t0]? = some (cA, .boolean)) {i : Int} {v : Int} (hi : 0 ≤ i ∧ i < n) (hn : n ≤ 2147483647) (hv : v = 0 ∨ v = 1) (d : decode cc pc = .ok (.bastore, 1))
    (kk : ∀ (H1 : Heap) (locs1 : List Loc), va_P D cl (ws.set q0 (a, .inl (cA, n, .inl (upd f i.toNat (iI v))))) H1 → va_D A (ws.set q0 (a, .inl (cA, n, .inl (upd f i.toNat (iI v))))) → va_S A H0 H1 locs1 → W p l e R s m args below meth c H1 locs1 cells slots Q (F0 m (pc + 1) ls rest)) : W p l e R s m args below meth c H locs cells slots Q (F0 m pc ls (.int (iI v) :: .int (iI i) :: .ref a :: rest)) := by
  have hz : vp_nar .boolean (iI v) = iI v := by rcases hv with rfl | rfl <;> decide +kernel
  refine va_zast hx hb hK hP hD hS q0 t0 ha ht (iI_in hi hn) d ?_
  rw [iI_N ⟨hi.1, by omega⟩]
  first
    | exact kk
    | (rw [hz]; exact kk)
theorem pv_alen (hx : p.tables.exec = Jvm.exec) (hb : c.code = cc) (hK : va_K D cl tys s) (hP : va_P D cl ws H) (q0 t0 : Nat) {cA : ClassId} {x : vp_A} (ha : ws[q0]? = some (a, .inl (cA, x))) {ty : FieldType} (ht : tys[t0]? = some (cA, ty)) {v : Int} (hv : Int32.ofNat x.1 = iI v) (d : decode cc pc = .ok (.arraylength, 1))
    (kk : W p l e R s m args below meth c H locs cells slots Q (F0 m (pc + 1) ls (.int (iI v) :: rest))) : W p l e R s m args below meth c H locs cells slots Q (F0 m pc ls (.ref a :: rest)) := va_alen hx hb hK hP q0 t0 ha ht hv d kk
/-- an int array outside of the world, read as the heap stands -/
theorem pv_xld (hx : p.tables.exec = Jvm.exec) (hb : c.code = cc) {b L : Nat} {xs : Nat → Int32} {A9 : Nat → Prop} (hX : va_T .int b L (fun j => .int (xs j)) A9 s H) {i : Int} {v : Int} (hi : 0 ≤ i ∧ i < L) (hn : L ≤ 2147483647) (hv : xs i.toNat = iI v) (d : decode cc pc = .ok (.iaload, 1))
    (kk : W p l e R s m args below meth c H locs cells slots Q (F0 m (pc + 1) ls (.int (iI v) :: rest))) : W p l e R s m args below meth c H locs cells slots Q (F0 m pc ls (.int (iI i) :: .ref b :: rest)) := by
  obtain ⟨scr, h1, h2, h3, h4, h5, h6, h7⟩ := hX
  have hlt : i.toNat < L := by omega
  have e := iI_N (a := i) ⟨hi.1, by omega⟩
  have hin : ¬ (iI i < 0 ∨ scr.slots.size ≤ (iI i).toNatClampNeg) := by
    rw [e]
    intro q
    rcases q with q | q
    · rw [← iI_0, iI_lt (by omega) (by omega)] at q
      omega
    · omega
  exact W.iald (v := .int (iI v)) hx hb h1 h2 h3 hin (by rw [e, h6 _ hlt]; show some (Value.int (xs i.toNat)) = _; rw [hv]) rfl rfl d kk
theorem pv_xlen (hx : p.tables.exec = Jvm.exec) (hb : c.code = cc) {b L : Nat} {xs : Nat → Int32} {A9 : Nat → Prop} (hX : va_T .int b L (fun j => .int (xs j)) A9 s H) {v : Int} (hv : Int32.ofNat L = iI v) (d : decode cc pc = .ok (.arraylength, 1))
    (kk : W p l e R s m args below meth c H locs cells slots Q (F0 m (pc + 1) ls (.int (iI v) :: rest))) : W p l e R s m args below meth c H locs cells slots Q (F0 m pc ls (.ref b :: rest)) := by
  obtain ⟨scr, h1, h2, h3, h4, h5, h6, h7⟩ := hX
  rw [← hv] at kk
  exact W.alen (n := Int32.ofNat L) hx hb h1 h2 h5 rfl rfl d kk
end PVW
end
section
/-! judgements: a method that only reads (pu), one that changes cells of a set (mu), one that throws (th); what a contract asks is a P : State → Heap → Prop that moves with the tables -/
def mvb (P : State → Heap → Prop) : Prop := ∀ (u U : State) (H : Heap), u.WarmedH U.vm → P u H → P U H
def pu_Q (v : Int) : Array Value → State → Outcome → State → Prop := fun _ st o t => o = .returned (some (.int (iI v))) ∧ t.heap = st.heap
def pu_M (l : Launch) (y : MethodName) (ws : List Cond) (rm : Room) (av : List Value) (P : State → Heap → Prop) (v : Int) : Prop := Met l y ws rm (va_Pc av (fun U => P U U.heap)) (pu_Q v) 0 0 (fun _ => False)
/-- a check that returns without an answer, and changes nothing -/
def pn_Q : Array Value → State → Outcome → State → Prop := fun _ st o t => o = .returned none ∧ t.heap = st.heap
def pn_M (l : Launch) (y : MethodName) (ws : List Cond) (rm : Room) (av : List Value) (P : State → Heap → Prop) : Prop := Met l y ws rm (va_Pc av (fun U => P U U.heap)) pn_Q 0 0 (fun _ => False)
def mu_Q (ov : Option Value) (P2 : Heap → Prop) (A : Nat → Prop) : Array Value → State → Outcome → State → Prop := fun _ st o t => o = .returned ov ∧ P2 t.heap ∧ va_F A st t
def mu_M (l : Launch) (y : MethodName) (ws : List Cond) (rm : Room) (av : List Value) (P : State → Heap → Prop) (ov : Option Value) (P2 : Heap → Prop) (A : Nat → Prop) : Prop := Met l y ws rm (va_Pc av (fun U => P U U.heap)) (mu_Q ov P2 A) 0 0 A
def th_X (E : String) : String → State → State → Prop := fun E2 st t => E2 = E ∧ st.heap.size ≤ t.heap.size ∧ ∀ q : Nat, q < st.heap.size → t.heap[q]? = st.heap[q]?
def th_M (l : Launch) (y : MethodName) (ws : List Cond) (rm : Room) (av : List Value) (P : State → Heap → Prop) (E : String) : Prop := vx_Met l y ws rm (va_Pc av (fun U => P U U.heap)) (fun _ _ _ _ => False) (th_X E) 1 6 (fun _ => False)
theorem blind_of {P : State → Heap → Prop} (hm : mvb P) (av : List Value) : FrameBlind (va_Pc av (fun U => P U U.heap)) := by
  intro a U g mk h
  exact ⟨h.1, hm U (U.calling g mk a) U.heap (State.WarmedH.refl U) h.2⟩
section PU1
variable {p : Program} {l : Launch} {e : Env} {R : Room} {s : State} {m : MethodId} {args : Array Value} {below : List Frame} {meth : Method} {c : Code} {H : Heap} {locs : List Loc} {cells slots : Nat} {Q : State → Prop}
variable {y : MethodName} {bytes cc : ByteArray} {maxL nL n index : Nat} {ret : Option FieldType} {ws : List Cond} {rm : Room} {P : State → Heap → Prop} {Ts : List Cond} {own C : String} {b : Addr} {As rest st0 : List Value} {pc : Nat} {ls : Array Slot}
theorem pu_callV {v : Int} (hm : mvb P) (S : CallFix p m c cc nL s args Ts own) (hM : pu_M l y ws rm (.ref b :: As) P v) (cw : CallW R s args own C index y bytes maxL ret ws rm 0 0 n) (hP : P s H) (hrecv : ∃ cellB : Cell, H[b]? = some cellB ∧ cellB.vm.isStatics = false ∧ s.vm.findClass C = some cellB.cls)
    (hst : st0 = As.reverse ++ .ref b :: rest) (hn : As.length = n) (hsz : ls.size = nL) (hW : (rest.map fun v => v.category).sum ≤ 8) (d : decode cc pc = .ok (.invokevirtual index, 3)) (hf : cells + 0 ≤ R.cells ∧ slots + 0 ≤ R.slots)
    (kk : W p l e R s m args below meth c H locs cells slots Q (F0 m (pc + 3) ls (.int (iI v) :: rest))) : W p l e R s m args below meth c H locs cells slots Q (F0 m pc ls st0) := by
  intro T hT X
  obtain ⟨v9, st₀, t, T', L, h0, X', hL, e1, e2, ⟨hv, hh⟩, st⟩ := (va_runV S hM cw ⟨blind_of hm _, hrecv, fun U hU hw => ⟨rfl, by show P U U.heap; rw [hU]; exact hm s U H hw hP⟩⟩ (g := F0 m pc ls st0) rfl hn hsz hst (lv_room hW) d hf) T hT X
  cases hv
  have hL0 : L = [] := List.eq_nil_iff_forall_not_mem.mpr (fun q hq => hL q hq)
  subst hL0
  rw [List.append_nil] at X'
  obtain ⟨t2, a1, b1⟩ := kk T' (by rw [e1, hh, h0]) X'
  exact ⟨t2, st t2 a1, b1⟩
theorem pn_callV (hm : mvb P) (S : CallFix p m c cc nL s args Ts own) (hM : pn_M l y ws rm (.ref b :: As) P) (cw : CallW R s args own C index y bytes maxL ret ws rm 0 0 n) (hP : P s H) (hrecv : ∃ cellB : Cell, H[b]? = some cellB ∧ cellB.vm.isStatics = false ∧ s.vm.findClass C = some cellB.cls)
    (hst : st0 = As.reverse ++ .ref b :: rest) (hn : As.length = n) (hsz : ls.size = nL) (hW : (rest.map fun v => v.category).sum ≤ 8) (d : decode cc pc = .ok (.invokevirtual index, 3)) (hf : cells + 0 ≤ R.cells ∧ slots + 0 ≤ R.slots)
    (kk : W p l e R s m args below meth c H locs cells slots Q (F0 m (pc + 3) ls rest)) : W p l e R s m args below meth c H locs cells slots Q (F0 m pc ls st0) := by
  intro T hT X
  obtain ⟨v9, st₀, t, T', L, h0, X', hL, e1, e2, ⟨hv, hh⟩, st⟩ := (va_runV S hM cw ⟨blind_of hm _, hrecv, fun U hU hw => ⟨rfl, by show P U U.heap; rw [hU]; exact hm s U H hw hP⟩⟩ (g := F0 m pc ls st0) rfl hn hsz hst (lv_room hW) d hf) T hT X
  cases hv
  have hL0 : L = [] := List.eq_nil_iff_forall_not_mem.mpr (fun q hq => hL q hq)
  subst hL0
  rw [List.append_nil] at X'
  obtain ⟨t2, a1, b1⟩ := kk T' (by rw [e1, hh, h0]) X'
  exact ⟨t2, st t2 a1, b1⟩
theorem mu_callV {ov : Option Value} {P2 : Heap → Prop} {A A0 : Nat → Prop} {H0 : Heap} (hm : mvb P) (S : CallFix p m c cc nL s args Ts own) (hM : mu_M l y ws rm (.ref b :: As) P ov P2 A) (cw : CallW R s args own C index y bytes maxL ret ws rm 0 0 n) (hP : P s H) (hrecv : ∃ cellB : Cell, H[b]? = some cellB ∧ cellB.vm.isStatics = false ∧ s.vm.findClass C = some cellB.cls)
    (hst : st0 = As.reverse ++ .ref b :: rest) (hn : As.length = n) (hsz : ls.size = nL) (hW : (rest.map fun v => v.category).sum ≤ 8) (d : decode cc pc = .ok (.invokevirtual index, 3)) (hf : cells + 0 ≤ R.cells ∧ slots + 0 ≤ R.slots)
    (hS : va_S A0 H0 H locs) (hA : ∀ q, A q → A0 q)
    (kk : ∀ (H1 : Heap) (locs1 : List Loc), P2 H1 → H.size ≤ H1.size → (∀ q : Nat, q < H.size → ¬ A q → H1[q]? = H[q]?) → va_S A0 H0 H1 locs1 → W p l e R s m args below meth c H1 locs1 cells slots Q (F0 m (pc + 3) ls (ov.toList ++ rest))) : W p l e R s m args below meth c H locs cells slots Q (F0 m pc ls st0) := by
  intro T hT X
  obtain ⟨v9, st₀, t, T', L, h0, X', hL, e1, e2, ⟨hv, hp2, hz, hk⟩, st⟩ := (va_runV S hM cw ⟨blind_of hm _, hrecv, fun U hU hw => ⟨rfl, by show P U U.heap; rw [hU]; exact hm s U H hw hP⟩⟩ (g := F0 m pc ls st0) rfl hn hsz hst (lv_room hW) d hf) T hT X
  cases hv
  rw [h0] at hz hk
  obtain ⟨t2, a1, b1⟩ := kk T'.heap (locs ++ L) (by rw [e1]; exact hp2) (by rw [e1]; exact hz) (by rw [e1]; exact hk)
    ⟨Nat.le_trans hS.1 (by rw [e1]; exact hz), fun q h1 h2 => by rw [e1, hk q (Nat.lt_of_lt_of_le h1 hS.1) (fun z => h2 (hA q z))]; exact hS.2.1 q h1 h2, fun q hq => by
      rcases List.mem_append.mp hq with h | h
      · exact hS.2.2 q h
      · exact hA _ (hL q h)⟩ T' rfl X'
  exact ⟨t2, st t2 a1, b1⟩
theorem th_callV {E : String} (hm : mvb P) (S : CallFix p m c cc nL s args Ts own) (hM : th_M l y ws rm (.ref b :: As) P E) (cw : CallW R s args own C index y bytes maxL ret ws rm 1 6 n) (hP : P s H) (hrecv : ∃ cellB : Cell, H[b]? = some cellB ∧ cellB.vm.isStatics = false ∧ s.vm.findClass C = some cellB.cls)
    (hst : st0 = As.reverse ++ .ref b :: rest) (hn : As.length = n) (hsz : ls.size = nL) (hW : (rest.map fun v => v.category).sum ≤ 8) (d : decode cc pc = .ok (.invokevirtual index, 3)) (hf : cells + 1 ≤ R.cells ∧ slots + 6 ≤ R.slots)
    (kx : ∀ (H1 : Heap) (ce : Cell) (q9 : Addr), H.size ≤ H1.size → (∀ q : Nat, q < H.size → H1[q]? = H[q]?) → H1[q9]? = some ce → ce.vm = .none → s.vm.findClass E = some ce.cls → vx_W p l e R s m args below meth c H1 locs (cells + 1) (slots + 6) Q (F0 m pc ls rest) q9) : W p l e R s m args below meth c H locs cells slots Q (F0 m pc ls st0) := by
  intro T hT X
  rcases (vx_runV S hM cw ⟨blind_of hm _, hrecv, fun U hU hw => ⟨rfl, by show P U U.heap; rw [hU]; exact hm s U H hw hP⟩⟩ (g := F0 m pc ls st0) rfl hn hsz hst (lv_room hW) d hf) T hT X with ⟨v9, st₀, t, T', L, h0, X', hL, e1, e2, hv, st⟩ | ⟨q, st₀, t, T', L, E2, ce, h0, X', hL, e1, e2, ⟨rfl, hz, hk⟩, hce, hcv, hcl, st⟩
  · exact hv.elim
  · have hL0 : L = [] := List.eq_nil_iff_forall_not_mem.mpr (fun q hq => hL q hq)
    subst hL0
    rw [List.append_nil] at X'
    rw [h0] at hz hk
    obtain ⟨t2, a1, b1⟩ := kx T'.heap ce q (by rw [e1]; exact hz) (fun q h1 => by rw [e1]; exact hk q h1) (by rw [e1]; exact hce) hcv hcl T' rfl X'
    exact ⟨t2, st.trans a1, b1⟩
theorem pu_callS {v : Int} (hm : mvb P) (S : CallFix p m c cc nL s args Ts own) (hM : pu_M l y ws rm As P v) (cw : CallB R s args own index y bytes maxL ret ws rm 0 0 n ∧ (Cond.static y).before args s = true) (hP : P s H)
    (hst : st0 = As.reverse ++ rest) (hn : As.length = n) (hsz : ls.size = nL) (hW : (rest.map fun v => v.category).sum ≤ 8) (d : decode cc pc = .ok (.invokestatic index, 3)) (hf : cells + 0 ≤ R.cells ∧ slots + 0 ≤ R.slots)
    (kk : W p l e R s m args below meth c H locs cells slots Q (F0 m (pc + 3) ls (.int (iI v) :: rest))) : W p l e R s m args below meth c H locs cells slots Q (F0 m pc ls st0) := by
  intro T hT X
  obtain ⟨v9, st₀, t, T', L, h0, X', hL, e1, e2, ⟨hv, hh⟩, st⟩ := (va_runS S hM cw ⟨blind_of hm _, fun U hU hw => ⟨rfl, by show P U U.heap; rw [hU]; exact hm s U H hw hP⟩⟩ (g := F0 m pc ls st0) rfl hn hsz hst (lv_room hW) d hf) T hT X
  cases hv
  have hL0 : L = [] := List.eq_nil_iff_forall_not_mem.mpr (fun q hq => hL q hq)
  subst hL0
  rw [List.append_nil] at X'
  obtain ⟨t2, a1, b1⟩ := kk T' (by rw [e1, hh, h0]) X'
  exact ⟨t2, st t2 a1, b1⟩
theorem pn_callS (hm : mvb P) (S : CallFix p m c cc nL s args Ts own) (hM : pn_M l y ws rm As P) (cw : CallB R s args own index y bytes maxL ret ws rm 0 0 n ∧ (Cond.static y).before args s = true) (hP : P s H)
    (hst : st0 = As.reverse ++ rest) (hn : As.length = n) (hsz : ls.size = nL) (hW : (rest.map fun v => v.category).sum ≤ 8) (d : decode cc pc = .ok (.invokestatic index, 3)) (hf : cells + 0 ≤ R.cells ∧ slots + 0 ≤ R.slots)
    (kk : W p l e R s m args below meth c H locs cells slots Q (F0 m (pc + 3) ls rest)) : W p l e R s m args below meth c H locs cells slots Q (F0 m pc ls st0) := by
  intro T hT X
  obtain ⟨v9, st₀, t, T', L, h0, X', hL, e1, e2, ⟨hv, hh⟩, st⟩ := (va_runS S hM cw ⟨blind_of hm _, fun U hU hw => ⟨rfl, by show P U U.heap; rw [hU]; exact hm s U H hw hP⟩⟩ (g := F0 m pc ls st0) rfl hn hsz hst (lv_room hW) d hf) T hT X
  cases hv
  have hL0 : L = [] := List.eq_nil_iff_forall_not_mem.mpr (fun q hq => hL q hq)
  subst hL0
  rw [List.append_nil] at X'
  obtain ⟨t2, a1, b1⟩ := kk T' (by rw [e1, hh, h0]) X'
  exact ⟨t2, st t2 a1, b1⟩
theorem mu_callS {ov : Option Value} {P2 : Heap → Prop} {A A0 : Nat → Prop} {H0 : Heap} (hm : mvb P) (S : CallFix p m c cc nL s args Ts own) (hM : mu_M l y ws rm As P ov P2 A) (cw : CallB R s args own index y bytes maxL ret ws rm 0 0 n ∧ (Cond.static y).before args s = true) (hP : P s H)
    (hst : st0 = As.reverse ++ rest) (hn : As.length = n) (hsz : ls.size = nL) (hW : (rest.map fun v => v.category).sum ≤ 8) (d : decode cc pc = .ok (.invokestatic index, 3)) (hf : cells + 0 ≤ R.cells ∧ slots + 0 ≤ R.slots)
    (hS : va_S A0 H0 H locs) (hA : ∀ q, A q → A0 q)
    (kk : ∀ (H1 : Heap) (locs1 : List Loc), P2 H1 → H.size ≤ H1.size → (∀ q : Nat, q < H.size → ¬ A q → H1[q]? = H[q]?) → va_S A0 H0 H1 locs1 → W p l e R s m args below meth c H1 locs1 cells slots Q (F0 m (pc + 3) ls (ov.toList ++ rest))) : W p l e R s m args below meth c H locs cells slots Q (F0 m pc ls st0) := by
  intro T hT X
  obtain ⟨v9, st₀, t, T', L, h0, X', hL, e1, e2, ⟨hv, hp2, hz, hk⟩, st⟩ := (va_runS S hM cw ⟨blind_of hm _, fun U hU hw => ⟨rfl, by show P U U.heap; rw [hU]; exact hm s U H hw hP⟩⟩ (g := F0 m pc ls st0) rfl hn hsz hst (lv_room hW) d hf) T hT X
  cases hv
  rw [h0] at hz hk
  obtain ⟨t2, a1, b1⟩ := kk T'.heap (locs ++ L) (by rw [e1]; exact hp2) (by rw [e1]; exact hz) (by rw [e1]; exact hk)
    ⟨Nat.le_trans hS.1 (by rw [e1]; exact hz), fun q h1 h2 => by rw [e1, hk q (Nat.lt_of_lt_of_le h1 hS.1) (fun z => h2 (hA q z))]; exact hS.2.1 q h1 h2, fun q hq => by
      rcases List.mem_append.mp hq with h | h
      · exact hS.2.2 q h
      · exact hA _ (hL q h)⟩ T' rfl X'
  exact ⟨t2, st t2 a1, b1⟩
theorem th_callS {E : String} (hm : mvb P) (S : CallFix p m c cc nL s args Ts own) (hM : th_M l y ws rm As P E) (cw : CallB R s args own index y bytes maxL ret ws rm 1 6 n ∧ (Cond.static y).before args s = true) (hP : P s H)
    (hst : st0 = As.reverse ++ rest) (hn : As.length = n) (hsz : ls.size = nL) (hW : (rest.map fun v => v.category).sum ≤ 8) (d : decode cc pc = .ok (.invokestatic index, 3)) (hf : cells + 1 ≤ R.cells ∧ slots + 6 ≤ R.slots)
    (kx : ∀ (H1 : Heap) (ce : Cell) (q9 : Addr), H.size ≤ H1.size → (∀ q : Nat, q < H.size → H1[q]? = H[q]?) → H1[q9]? = some ce → ce.vm = .none → s.vm.findClass E = some ce.cls → vx_W p l e R s m args below meth c H1 locs (cells + 1) (slots + 6) Q (F0 m pc ls rest) q9) : W p l e R s m args below meth c H locs cells slots Q (F0 m pc ls st0) := by
  intro T hT X
  rcases (vx_runS S hM cw ⟨blind_of hm _, fun U hU hw => ⟨rfl, by show P U U.heap; rw [hU]; exact hm s U H hw hP⟩⟩ (g := F0 m pc ls st0) rfl hn hsz hst (lv_room hW) d hf) T hT X with ⟨v9, st₀, t, T', L, h0, X', hL, e1, e2, hv, st⟩ | ⟨q, st₀, t, T', L, E2, ce, h0, X', hL, e1, e2, ⟨rfl, hz, hk⟩, hce, hcv, hcl, st⟩
  · exact hv.elim
  · have hL0 : L = [] := List.eq_nil_iff_forall_not_mem.mpr (fun q hq => hL q hq)
    subst hL0
    rw [List.append_nil] at X'
    rw [h0] at hz hk
    obtain ⟨t2, a1, b1⟩ := kx T'.heap ce q (by rw [e1]; exact hz) (fun q h1 => by rw [e1]; exact hk q h1) (by rw [e1]; exact hce) hcv hcl T' rfl X'
    exact ⟨t2, st.trans a1, b1⟩
end PU1
section PU2
variable {l : Launch} {y : MethodName} {ws ws' : List Cond} {rm : Room} {P : State → Heap → Prop} {cc : ByteArray} {maxL : Nat} {ret : Option FieldType} {av : List Value} {own : String}
/-- what a body knows at its entry -/
def bd_At (p : Program) (s : State) (m : MethodId) (args : Array Value) (meth : Method) (c : Code) (cc : ByteArray) (maxL : Nat) (ret : Option FieldType) (ws : List Cond) (own : String) : Prop :=
  p.tables.exec = Jvm.exec ∧ c.code = cc ∧ c.maxLocals = maxL ∧ meth.sig.returnType = ret ∧ (∀ w ∈ ws, w.before args s = true) ∧ s.vm.findClass own = some m.cls ∧ meth.locks = false
theorem pu_of {v : Int} (hy : plainName y.cls = true) (hw : ws = Cond.code y cc maxL ret :: ws') (ho : y.cls = own) (hlen : (lg_sl av).length ≤ maxL)
    (body : ∀ (p : Program) (e : Env) (s : State) (m : MethodId) (below : List Frame) (meth : Method) (c : Code) (ls : Array Slot), bd_At p s m av.toArray meth c cc maxL ret ws own → P s s.heap → lv_has ls maxL (lv_args 0 av) →
      W p l e rm s m av.toArray below meth c s.heap [] 0 0 (MQ below (pu_Q v) av.toArray s 0 0 (fun _ => False)) (F0 m 0 ls [])) : pu_M l y ws rm av P v := by
  refine Met.ofW (cc := cc) (maxL := maxL) (ret := ret) hy hw ?_
  intro p e s m args below meth c s₁ B hml hv
  obtain ⟨rfl, hP⟩ := hv
  have hown : s.vm.findClass y.cls = some m.cls := findClass_of_methodNamed B.named
  rw [ho] at hown
  rw [lg_entry_eq]
  exact body p e s m below meth c _ ⟨B.exec, B.bytes, hml, B.returns, atoms_spec (ws := ws) B.pre, hown, B.notSynchronized⟩ hP (lv_entry av hlen)
theorem pn_of (hy : plainName y.cls = true) (hw : ws = Cond.code y cc maxL ret :: ws') (ho : y.cls = own) (hlen : (lg_sl av).length ≤ maxL)
    (body : ∀ (p : Program) (e : Env) (s : State) (m : MethodId) (below : List Frame) (meth : Method) (c : Code) (ls : Array Slot), bd_At p s m av.toArray meth c cc maxL ret ws own → P s s.heap → lv_has ls maxL (lv_args 0 av) →
      W p l e rm s m av.toArray below meth c s.heap [] 0 0 (MQ below pn_Q av.toArray s 0 0 (fun _ => False)) (F0 m 0 ls [])) : pn_M l y ws rm av P := by
  refine Met.ofW (cc := cc) (maxL := maxL) (ret := ret) hy hw ?_
  intro p e s m args below meth c s₁ B hml hv
  obtain ⟨rfl, hP⟩ := hv
  have hown : s.vm.findClass y.cls = some m.cls := findClass_of_methodNamed B.named
  rw [ho] at hown
  rw [lg_entry_eq]
  exact body p e s m below meth c _ ⟨B.exec, B.bytes, hml, B.returns, atoms_spec (ws := ws) B.pre, hown, B.notSynchronized⟩ hP (lv_entry av hlen)
theorem mu_of {ov : Option Value} {P2 : Heap → Prop} {A : Nat → Prop} (hy : plainName y.cls = true) (hw : ws = Cond.code y cc maxL ret :: ws') (ho : y.cls = own) (hlen : (lg_sl av).length ≤ maxL)
    (body : ∀ (p : Program) (e : Env) (s : State) (m : MethodId) (below : List Frame) (meth : Method) (c : Code) (ls : Array Slot), bd_At p s m av.toArray meth c cc maxL ret ws own → P s s.heap → lv_has ls maxL (lv_args 0 av) → va_S A s.heap s.heap [] →
      W p l e rm s m av.toArray below meth c s.heap [] 0 0 (MQ below (mu_Q ov P2 A) av.toArray s 0 0 A) (F0 m 0 ls [])) : mu_M l y ws rm av P ov P2 A := by
  refine Met.ofW (cc := cc) (maxL := maxL) (ret := ret) hy hw ?_
  intro p e s m args below meth c s₁ B hml hv
  obtain ⟨rfl, hP⟩ := hv
  have hown : s.vm.findClass y.cls = some m.cls := findClass_of_methodNamed B.named
  rw [ho] at hown
  rw [lg_entry_eq]
  exact body p e s m below meth c _ ⟨B.exec, B.bytes, hml, B.returns, atoms_spec (ws := ws) B.pre, hown, B.notSynchronized⟩ hP (lv_entry av hlen) va_S.rf
theorem th_of {E : String} (hy : plainName y.cls = true) (hw : ws = Cond.code y cc maxL ret :: ws') (ho : y.cls = own) (hlen : (lg_sl av).length ≤ maxL)
    (body : ∀ (p : Program) (e : Env) (s : State) (m : MethodId) (below : List Frame) (meth : Method) (c : Code) (ls : Array Slot), bd_At p s m av.toArray meth c cc maxL ret ws own → (∀ x ∈ c.exceptionTable.toList, False) → P s s.heap → lv_has ls maxL (lv_args 0 av) →
      W p l e rm s m av.toArray below meth c s.heap [] 0 0 (vx_MQ below (fun _ _ _ _ => False) (th_X E) av.toArray s 1 6 (fun _ => False)) (F0 m 0 ls [])) : th_M l y ws rm av P E := by
  refine vx_ofW (cc := cc) (maxL := maxL) (ret := ret) hy hw ?_
  intro p e s m args below meth c s₁ B hml hno hv
  obtain ⟨rfl, hP⟩ := hv
  have hown : s.vm.findClass y.cls = some m.cls := findClass_of_methodNamed B.named
  rw [ho] at hown
  rw [lg_entry_eq]
  exact body p e s m below meth c _ ⟨B.exec, B.bytes, hml, B.returns, atoms_spec (ws := ws) B.pre, hown, B.notSynchronized⟩ hno hP (lv_entry av hlen)
end PU2
section PU3
variable {p : Program} {l : Launch} {e : Env} {R : Room} {s : State} {m : MethodId} {args : Array Value} {below : List Frame} {meth : Method} {c : Code} {H : Heap} {locs : List Loc} {cells slots : Nat} {Q : State → Prop}
variable {cc : ByteArray} {pc : Nat} {ls : Array Slot}
theorem pu_iret {v v9 : Int} (hx : p.tables.exec = Jvm.exec) (hb : c.code = cc) (hr : meth.sig.returnType = some .int) (hlocks : meth.locks = false) (d : decode cc pc = .ok (.ireturn, 1)) (h : v9 = v) : W p l e R s m args below meth c s.heap [] 0 0 (MQ below (pu_Q v) args s 0 0 (fun _ => False)) (F0 m pc ls [.int (iI v9)]) := by
  subst h
  exact W.iret hx hb hr (fun t ht _ => ⟨rfl, ht⟩) (fun _ h => by cases h) d hlocks
theorem pu_zret {v v9 : Int} (hx : p.tables.exec = Jvm.exec) (hb : c.code = cc) (hr : meth.sig.returnType = some .boolean) (hlocks : meth.locks = false) (d : decode cc pc = .ok (.ireturn, 1)) (h : v9 = v) (hz : v = 0 ∨ v = 1) : W p l e R s m args below meth c s.heap [] 0 0 (MQ below (pu_Q v) args s 0 0 (fun _ => False)) (F0 m pc ls [.int (iI v9)]) := by
  subst h
  exact W.zret (ty := .boolean) hx hb hr (by rcases hz with rfl | rfl <;> decide +kernel) (fun t ht _ => ⟨rfl, ht⟩) (fun _ h => by cases h) d hlocks
theorem pn_vret (hx : p.tables.exec = Jvm.exec) (hb : c.code = cc) (hr : meth.sig.returnType = none) (hlocks : meth.locks = false) (d : decode cc pc = .ok (.return_, 1)) : W p l e R s m args below meth c s.heap [] 0 0 (MQ below pn_Q args s 0 0 (fun _ => False)) (F0 m pc ls []) :=
  W.vret hx hb hr (fun t ht _ => ⟨rfl, ht⟩) (fun _ h => by cases h) d hlocks
theorem mu_vret {P2 : Heap → Prop} {A : Nat → Prop} (hx : p.tables.exec = Jvm.exec) (hb : c.code = cc) (hr : meth.sig.returnType = none) (hlocks : meth.locks = false) (hS : va_S A s.heap H locs) (d : decode cc pc = .ok (.return_, 1)) (h2 : P2 H) : W p l e R s m args below meth c H locs 0 0 (MQ below (mu_Q none P2 A) args s 0 0 A) (F0 m pc ls []) :=
  W.vret hx hb hr (fun t ht _ => ⟨rfl, by rw [ht]; exact h2, hS.F ht⟩) hS.2.2 d hlocks
theorem mu_iret {v v9 : Int} {P2 : Heap → Prop} {A : Nat → Prop} (hx : p.tables.exec = Jvm.exec) (hb : c.code = cc) (hr : meth.sig.returnType = some .int) (hlocks : meth.locks = false) (hS : va_S A s.heap H locs) (d : decode cc pc = .ok (.ireturn, 1)) (h : v9 = v) (h2 : P2 H) : W p l e R s m args below meth c H locs 0 0 (MQ below (mu_Q (some (.int (iI v))) P2 A) args s 0 0 A) (F0 m pc ls [.int (iI v9)]) := by
  subst h
  exact W.iret hx hb hr (fun t ht _ => ⟨rfl, by rw [ht]; exact h2, hS.F ht⟩) hS.2.2 d hlocks
theorem mu_zret {v v9 : Int} {P2 : Heap → Prop} {A : Nat → Prop} (hx : p.tables.exec = Jvm.exec) (hb : c.code = cc) (hr : meth.sig.returnType = some .boolean) (hlocks : meth.locks = false) (hS : va_S A s.heap H locs) (d : decode cc pc = .ok (.ireturn, 1)) (h : v9 = v) (hz9 : v = 0 ∨ v = 1) (h2 : P2 H) : W p l e R s m args below meth c H locs 0 0 (MQ below (mu_Q (some (.int (iI v))) P2 A) args s 0 0 A) (F0 m pc ls [.int (iI v9)]) := by
  subst h
  exact W.zret (ty := .boolean) hx hb hr (by rcases hz9 with rfl | rfl <;> decide +kernel) (fun t ht _ => ⟨rfl, by rw [ht]; exact h2, hS.F ht⟩) hS.2.2 d hlocks
/-- an exception of a callee goes on to the caller's caller -/
theorem th_out {E : String} {H1 : Heap} {ce : Cell} {q9 : Addr} {rest : List Value} (hno : ∀ x ∈ c.exceptionTable.toList, False) (hlocks : meth.locks = false) (h1 : s.heap.size ≤ H1.size) (h2 : ∀ q : Nat, q < s.heap.size → H1[q]? = s.heap[q]?) (h3 : H1[q9]? = some ce) (h4 : ce.vm = .none) (h5 : s.vm.findClass E = some ce.cls) :
    vx_W p l e R s m args below meth c H1 [] (0 + 1) (0 + 6) (vx_MQ below (fun _ _ _ _ => False) (th_X E) args s 1 6 (fun _ => False)) (F0 m pc ls rest) q9 :=
  vx_out (fun x hx => (hno x hx).elim) hlocks h3 h4 h5 (fun t ht _ => ⟨rfl, by rw [ht]; exact h1, fun q hq => by rw [ht]; exact h2 q hq⟩) (fun _ h => by cases h) (by omega) (by omega)
end PU3
end
section
/-! the worlds: the class's object and arrays, the reference's, and what stands still: tables, statics, texts -/
def LM : Int → Int := fun k => if k = 0 then 1 else if k = 1 then 2 else if k = 2 then 3 else if k = 3 then 5 else if k = 4 then 8 else if k = 5 then 14 else if k = 6 then 24 else if k = 7 then 42 else 73
abbrev W0 (cI : ClassId) (x0 x1 x2 x5 x6 x7 : Nat) (n came MV : Int) (f g sp rf rc : Nat → Int32) : va_W := [(x0, .inr (0, [.ref x1, .ref x2, .int (iI n), .int (iI came), .int (iI MV), .ref x5, .ref x6, .ref x7])), (x1, .inl (cI, 60, .inl f)), (x2, .inl (cI, 60, .inl g)), (x5, .inl (cI, 9, .inl sp)), (x6, .inl (cI, 4, .inl rf)), (x7, .inl (cI, 4, .inl rc))]
def mC (x0 x1 x2 x5 x6 x7 : Nat) : Nat → Prop := fun q => q = x0 ∨ q = x1 ∨ q = x2 ∨ q = x5 ∨ q = x6 ∨ q = x7
/-- what the throwing methods need: the texts, the classes, two statics of Throwable -/
def TW (base : Nat) (Z : Nat → Nat) (U : State) (H : Heap) : Prop := vk_R RX0 59 "a folder can't come behind itself" (Z 0) U ∧ vk_R RX0 104 "the folder is not in the archive" (Z 1) U ∧ vk_R RX0 111 "no more folders can come" (Z 2) U ∧ vk_R RX0 116 "no such reader" (Z 3) U ∧ va_Nw (.castable "java/lang/IndexOutOfBoundsException" "java/lang/IndexOutOfBoundsException") U ∧ va_Nw (.castable "java/lang/IllegalStateException" "java/lang/IllegalStateException") U ∧ va_Nw (.castable "java/lang/IllegalArgumentException" "java/lang/IllegalArgumentException") U ∧ va_Nw (.declares (Bundle.initS "java/lang/RuntimeException")) U ∧ va_Nw (.declares (Bundle.initS "java/lang/Exception")) U ∧ va_Nw (.declares (Bundle.initS "java/lang/Throwable")) U ∧ vx_Zq Bundle.tN "UNASSIGNED_STACK" Bundle.steD (fun q => base ≤ q) U H ∧ vx_Zq Bundle.tN "SUPPRESSED_SENTINEL" Bundle.listD (fun q => base ≤ q) U H
def SW (D : va_G) (cI : ClassId) (base st : Nat) (Z : Nat → Nat) (U : State) (H : Heap) : Prop := va_K D vwCl [(cI, .int)] U ∧ va_Z "ShelfMarks" "LOADED_FROM" "[I" (.ref st) (fun q => base ≤ q) U H ∧ (st < base ∧ ∃ xs, va_T .int st 9 (fun j => .int (xs j)) (fun q => base ≤ q) U H ∧ AR xs 9 LM) ∧ TW base Z U H
theorem SW.move {D : va_G} {cI : ClassId} {base st : Nat} {Z : Nat → Nat} {u U : State} {H : Heap} (hW : u.WarmedH U.vm) (h : SW D cI base st Z u H) : SW D cI base st Z U H := by
  obtain ⟨h1, h2, ⟨h3, xs, h4, h5⟩, t0, t1, t2, t3, k0, k1, k2, k3, k4, k5, h6, h7⟩ := h
  exact ⟨va_K.moved hW.alike h1, h2.moved hW.alike, ⟨h3, xs, h4.moved hW.alike, h5⟩, vk_R.warm hW t0, vk_R.warm hW t1, vk_R.warm hW t2, vk_R.warm hW t3, va_Nw.warmC hW k0, va_Nw.warmC hW k1, va_Nw.warmC hW k2, va_Nw.warmD hW k3, va_Nw.warmD hW k4, va_Nw.warmD hW k5, h6.moved hW.alike, h7.moved hW.alike⟩
theorem SW.keep {D : va_G} {cI : ClassId} {base st : Nat} {Z : Nat → Nat} {U : State} {H H1 : Heap} (h : SW D cI base st Z U H) (hk : ∀ q : Nat, q < base → H1[q]? = H[q]?) : SW D cI base st Z U H1 := by
  obtain ⟨h1, h2, ⟨h3, xs, h4, h5⟩, t0, t1, t2, t3, k0, k1, k2, k3, k4, k5, h6, h7⟩ := h
  have hq : ∀ a : Nat, a < H.size → ¬ (fun q => base ≤ q) a → H1[a]? = H[a]? := fun a _ h => hk a (Nat.not_le.mp h)
  exact ⟨h1, h2.kept hq, ⟨h3, xs, h4.kept hq, h5⟩, t0, t1, t2, t3, k0, k1, k2, k3, k4, k5, h6.kept hq, h7.kept hq⟩
def CW (D : va_G) (cI : ClassId) (base x0 x1 x2 x5 x6 x7 : Nat) (n came MV : Int) (F G SP RF RC : Int → Int) (H : Heap) : Prop := ∃ f g sp rf rc : Nat → Int32, AR f n F ∧ AR g n G ∧ AR sp 9 SP ∧ AR rf 4 RF ∧ AR rc 4 RC ∧ va_P D vwCl (W0 cI x0 x1 x2 x5 x6 x7 n came MV f g sp rf rc) H ∧ va_D (fun q => base ≤ q) (W0 cI x0 x1 x2 x5 x6 x7 n came MV f g sp rf rc)
def CP (D : va_G) (cI : ClassId) (base st : Nat) (Z : Nat → Nat) (x0 x1 x2 x5 x6 x7 : Nat) (n came MV : Int) (F G SP RF RC : Int → Int) : State → Heap → Prop := fun U H => SW D cI base st Z U H ∧ CW D cI base x0 x1 x2 x5 x6 x7 n came MV F G SP RF RC H
theorem CP_mv {D : va_G} {cI : ClassId} {base st : Nat} {Z : Nat → Nat} {x0 x1 x2 x5 x6 x7 : Nat} {n came MV : Int} {F G SP RF RC : Int → Int} : mvb (CP D cI base st Z x0 x1 x2 x5 x6 x7 n came MV F G SP RF RC) := fun _ _ _ hW h => ⟨h.1.move hW, h.2⟩
theorem CP_rc {D : va_G} {cI : ClassId} {base st : Nat} {Z : Nat → Nat} {x0 x1 x2 x5 x6 x7 : Nat} {n came MV : Int} {F G SP RF RC : Int → Int} {s : State} {H : Heap} (h : CP D cI base st Z x0 x1 x2 x5 x6 x7 n came MV F G SP RF RC s H) : ∃ cellB : Cell, H[x0]? = some cellB ∧ cellB.vm.isStatics = false ∧ s.vm.findClass RX0 = some cellB.cls := by
  obtain ⟨⟨hK, -⟩, f, g, sp, rf, rc, -, -, -, -, -, hP, -⟩ := h
  exact va_recv hK hP (ci := 0) (q0 := 0) (q := (RX0, TX0, 8)) rfl rfl
/-- the world's cells are of the set, too -/
theorem CW_mD {base x0 x1 x2 x5 x6 x7 : Nat} {cI : ClassId} {n came MV : Int} {f g sp rf rc : Nat → Int32} (h : va_D (fun q => base ≤ q) (W0 cI x0 x1 x2 x5 x6 x7 n came MV f g sp rf rc)) : va_D (mC x0 x1 x2 x5 x6 x7) (W0 cI x0 x1 x2 x5 x6 x7 n came MV f g sp rf rc) := by
  refine ⟨h.1, fun k q hq => ?_⟩
  unfold mC
  match k, hq with
  | 0, hq => cases hq; exact Or.inl rfl
  | 1, hq => cases hq; exact Or.inr (Or.inl rfl)
  | 2, hq => cases hq; exact Or.inr (Or.inr (Or.inl rfl))
  | 3, hq => cases hq; exact Or.inr (Or.inr (Or.inr (Or.inl rfl)))
  | 4, hq => cases hq; exact Or.inr (Or.inr (Or.inr (Or.inr (Or.inl rfl))))
  | 5, hq => cases hq; exact Or.inr (Or.inr (Or.inr (Or.inr (Or.inr rfl))))
  | k + 6, hq => simp [W0] at hq
/-- the set lies behind base, if the world does -/
theorem mC_b {base x0 x1 x2 x5 x6 x7 : Nat} {cI : ClassId} {n came MV : Int} {f g sp rf rc : Nat → Int32} (h : va_D (fun q => base ≤ q) (W0 cI x0 x1 x2 x5 x6 x7 n came MV f g sp rf rc)) : ∀ q, mC x0 x1 x2 x5 x6 x7 q → base ≤ q := by
  intro q hq
  rcases hq with rfl | rfl | rfl | rfl | rfl | rfl
  · exact h.2 0 _ rfl
  · exact h.2 1 _ rfl
  · exact h.2 2 _ rfl
  · exact h.2 3 _ rfl
  · exact h.2 4 _ rfl
  · exact h.2 5 _ rfl
/-- what stands still, behind changes of the set -/
theorem SW.behind {D : va_G} {cI : ClassId} {base st : Nat} {Z : Nat → Nat} {U : State} {H0 H : Heap} {A : Nat → Prop} {locs : List Loc} (h : SW D cI base st Z U H0) (hb : base ≤ H0.size) (hA : ∀ q, A q → base ≤ q) (hS : va_S A H0 H locs) : SW D cI base st Z U H :=
  h.keep (fun q hq => hS.2.1 q (Nat.lt_of_lt_of_le hq hb) (fun z => absurd (hA q z) (Nat.not_le.mpr hq)))
theorem CW_lt {D : va_G} {cI : ClassId} {base x0 x1 x2 x5 x6 x7 : Nat} {n came MV : Int} {F G SP RF RC : Int → Int} {H : Heap} (h : CW D cI base x0 x1 x2 x5 x6 x7 n came MV F G SP RF RC H) : base ≤ H.size := by
  obtain ⟨f, g, sp, rf, rc, -, -, -, -, -, hP, hD⟩ := h
  exact Nat.le_trans (hD.2 0 _ rfl) (Nat.le_of_lt (hP 0 _ rfl).lt)
theorem CW_kept {D : va_G} {cI : ClassId} {base x0 x1 x2 x5 x6 x7 : Nat} {n came MV : Int} {F G SP RF RC : Int → Int} {H H1 : Heap} (h : CW D cI base x0 x1 x2 x5 x6 x7 n came MV F G SP RF RC H) (hk : ∀ q : Nat, mC x0 x1 x2 x5 x6 x7 q → H1[q]? = H[q]?) : CW D cI base x0 x1 x2 x5 x6 x7 n came MV F G SP RF RC H1 := by
  obtain ⟨f, g, sp, rf, rc, a1, a2, a3, a4, a5, hP, hD⟩ := h
  exact ⟨f, g, sp, rf, rc, a1, a2, a3, a4, a5, hP.kept (fun k q hq => hk q.1 ((CW_mD hD).2 k q hq)), hD⟩
end
section
/-! the pure words -/
def ip (n v : Int) : Int := if 0 ≤ v ∧ v < n then 1 else 0
def PL (F : Int → Int) (n x r : Int) : Prop := (r = -1 ∧ ∀ k : Int, 0 ≤ k → k < n → F k ≠ x) ∨ (0 ≤ r ∧ r < n ∧ F r = x ∧ ∀ k : Int, 0 ≤ k → k < r → F k ≠ x)
def fa (F : Int → Int) (n v : Int) : Int := if 0 ≤ v ∧ v < n then F v else -1
def ma (G : Int → Int) (n v : Int) : Int := if v < 0 then -1 else if v < n then G v else 256
def FI (G : Int → Int) (n m r : Int) : Prop := (0 ≤ r ∧ r ≤ n) ∧ (∀ k : Int, 0 ≤ k → k < r → G k < m) ∧ (r < n → m ≤ G r)
theorem LM_rg (k : Int) : 1 ≤ LM k ∧ LM k ≤ 73 := by
  unfold LM
  repeat' split
  all_goals omega
/-- how many of the first places a test holds at -/
def cn (P : Int → Bool) : Nat → Int
  | 0 => 0
  | k + 1 => cn P k + (if P (k : Int) = true then 1 else 0)
theorem cn_s (P : Int → Bool) {i : Int} (h : 0 ≤ i) : cn P (i + 1).toNat = cn P i.toNat + (if P i = true then 1 else 0) := by
  obtain ⟨k, rfl⟩ := Int.eq_ofNat_of_zero_le h
  rw [show ((k : Int) + 1).toNat = k + 1 by omega, show ((k : Int)).toNat = k by omega]
  rfl
theorem cn_rg (P : Int → Bool) (k : Nat) : 0 ≤ cn P k ∧ cn P k ≤ k := by
  induction k with
  | zero => simp [cn]
  | succ k ih => simp only [cn]; split <;> omega
theorem cn_ext {P P' : Int → Bool} {k : Nat} (h : ∀ i : Int, 0 ≤ i → i < k → P i = P' i) : cn P k = cn P' k := by
  induction k with
  | zero => rfl
  | succ k ih => simp only [cn]; rw [ih (fun i h0 h1 => h i h0 (by omega)), h k (by omega) (by omega)]
theorem cn_t (P : Int → Bool) {i : Int} (h : 0 ≤ i) (hP : P i = true) : cn P (i + 1).toNat = cn P i.toNat + 1 := by rw [cn_s P h, if_pos hP]
theorem cn_f (P : Int → Bool) {i : Int} (h : 0 ≤ i) (hP : P i = false) : cn P (i + 1).toNat = cn P i.toNat := by rw [cn_s P h, if_neg (by rw [hP]; decide)]; omega
def mb (G : Int → Int) (n m : Int) : Int := cn (fun k => decide (G k < m)) n.toNat
def SD (G : Int → Int) (n : Int) : Prop := ∀ i j : Int, 0 ≤ i → i < j → j < n → G i < G j
theorem FI_un {G : Int → Int} {n m r q : Int} (h : FI G n m r) (h2 : FI G n m q) : r = q := by
  obtain ⟨a1, a2, a3⟩ := h
  obtain ⟨b1, b2, b3⟩ := h2
  rcases (show r < q ∨ q < r ∨ r = q by omega) with h | h | h
  · have := b2 r (by omega) h; have := a3 (by omega); omega
  · have := a2 q (by omega) h; have := b3 (by omega); omega
  · exact h
theorem mb_FI {G : Int → Int} {n : Int} (m : Int) (hn : 0 ≤ n) (hs : SD G n) : FI G n m (mb G n m) := by
  obtain ⟨k, rfl⟩ := Int.eq_ofNat_of_zero_le hn
  have key : ∀ j : Nat, (j : Int) ≤ k → FI G j m (cn (fun k => decide (G k < m)) j) := by
    intro j
    induction j with
    | zero => intro _; exact ⟨by simp [cn], fun k h0 h1 => by simp [cn] at h1; omega, fun h => by simp [cn] at h⟩
    | succ j ih =>
      intro hj
      obtain ⟨a1, a2, a3⟩ := ih (by omega)
      simp only [cn]
      generalize cn (fun k => decide (G k < m)) j = r at a1 a2 a3 ⊢
      by_cases hG : G j < m
      · have hr : r = j := by
          rcases (show r < j ∨ r = j by omega) with h | h
          · have := hs r j a1.1 h (by omega); have := a3 h; omega
          · exact h
        simp only [hG, decide_true, if_true]
        refine ⟨by omega, fun i h0 h1 => ?_, fun h => by omega⟩
        rcases (show i < r ∨ i = j by omega) with q | q
        · exact a2 i h0 q
        · rw [q]; exact hG
      · simp only [hG, decide_false, Bool.false_eq_true, if_false]
        refine ⟨by omega, fun i h0 h1 => a2 i h0 (by omega), fun h => ?_⟩
        rcases (show r + 0 < j ∨ r + 0 = j by omega) with q | q
        · rw [show r + 0 = r by omega]; exact a3 (by omega)
        · rw [q]; omega
  have := key k (Int.le_refl _)
  unfold mb
  rw [show ((k : Int)).toNat = k by omega]
  exact this
theorem mb_rg {G : Int → Int} {n m : Int} (hn : 0 ≤ n) : 0 ≤ mb G n m ∧ mb G n m ≤ n := by
  have := cn_rg (fun k => decide (G k < m)) n.toNat
  unfold mb
  omega
theorem mb_mono {G : Int → Int} {n m m2 : Int} (hn : 0 ≤ n) (hs : SD G n) (h : m ≤ m2) : mb G n m ≤ mb G n m2 := by
  obtain ⟨a1, a2, a3⟩ := mb_FI m hn hs
  obtain ⟨b1, b2, b3⟩ := mb_FI m2 hn hs
  rcases (show mb G n m ≤ mb G n m2 ∨ mb G n m2 < mb G n m by omega) with q | q
  · exact q
  · have := a2 _ b1.1 q; have := b3 (by omega); omega
/-- how many folders a shelf has -/
def ldn (G : Int → Int) (n lv sh : Int) : Int := mb G n ((sh + 1) * 2 ^ lv.toNat) - mb G n (sh * 2 ^ lv.toNat)
theorem p2_cases {lv : Int} (h : 0 ≤ lv ∧ lv ≤ 8) : ((2 : Int) ^ lv.toNat = 1 ∧ lv = 0) ∨ ((2 : Int) ^ lv.toNat = 2 ∧ lv = 1) ∨ ((2 : Int) ^ lv.toNat = 4 ∧ lv = 2) ∨ ((2 : Int) ^ lv.toNat = 8 ∧ lv = 3) ∨ ((2 : Int) ^ lv.toNat = 16 ∧ lv = 4) ∨ ((2 : Int) ^ lv.toNat = 32 ∧ lv = 5) ∨ ((2 : Int) ^ lv.toNat = 64 ∧ lv = 6) ∨ ((2 : Int) ^ lv.toNat = 128 ∧ lv = 7) ∨ ((2 : Int) ^ lv.toNat = 256 ∧ lv = 8) := by
  rcases (show lv = 0 ∨ lv = 1 ∨ lv = 2 ∨ lv = 3 ∨ lv = 4 ∨ lv = 5 ∨ lv = 6 ∨ lv = 7 ∨ lv = 8 by omega) with rfl | rfl | rfl | rfl | rfl | rfl | rfl | rfl | rfl <;> decide
theorem p2_rg {lv : Int} (h : 0 ≤ lv ∧ lv ≤ 8) : 1 ≤ (2 : Int) ^ lv.toNat ∧ (2 : Int) ^ lv.toNat ≤ 256 := by
  rcases p2_cases h with ⟨e, -⟩ | ⟨e, -⟩ | ⟨e, -⟩ | ⟨e, -⟩ | ⟨e, -⟩ | ⟨e, -⟩ | ⟨e, -⟩ | ⟨e, -⟩ | ⟨e, -⟩ <;> rw [e] <;> omega
theorem sh_b {a lv : Int} (ha : 0 ≤ a ∧ a ≤ 255) (h : 0 ≤ lv ∧ lv ≤ 8) : 0 ≤ a / 2 ^ lv.toNat ∧ a / 2 ^ lv.toNat ≤ 255 ∧ a / 2 ^ lv.toNat * 2 ^ lv.toNat ≤ a ∧ (a / 2 ^ lv.toNat + 1) * 2 ^ lv.toNat ≤ 511 ∧ a < (a / 2 ^ lv.toNat + 1) * 2 ^ lv.toNat ∧ 0 ≤ a / 2 ^ lv.toNat * 2 ^ lv.toNat ∧ (a / 2 ^ lv.toNat + 1) * 2 ^ lv.toNat ≤ 256 := by
  rcases p2_cases h with ⟨e, -⟩ | ⟨e, -⟩ | ⟨e, -⟩ | ⟨e, -⟩ | ⟨e, -⟩ | ⟨e, -⟩ | ⟨e, -⟩ | ⟨e, -⟩ | ⟨e, -⟩ <;> rw [e] <;> omega
theorem ldn_rg {G : Int → Int} {n lv sh : Int} (hn : 0 ≤ n ∧ n ≤ 60) (hs : SD G n) (h : sh * 2 ^ lv.toNat ≤ (sh + 1) * 2 ^ lv.toNat) : 0 ≤ ldn G n lv sh ∧ ldn G n lv sh ≤ 60 := by
  have h1 := mb_mono hn.1 hs h
  have h2 := mb_rg (G := G) (m := (sh + 1) * 2 ^ lv.toNat) hn.1
  have h3 := mb_rg (G := G) (m := sh * 2 ^ lv.toNat) hn.1
  unfold ldn
  omega
def LV (G : Int → Int) (n a r : Int) : Prop := (1 ≤ r ∧ r ≤ 8) ∧ (∀ j : Int, 1 ≤ j → j < r → LM j ≤ ldn G n j (a / 2 ^ j.toNat)) ∧ (r < 8 → ldn G n r (a / 2 ^ r.toNat) < LM r)
/-- the new mark of the i-th of t folders that are spread over w marks from lo -/
def nm (lo w t i : Int) : Int := lo + i * w / t
/-- where the k-th of the old folders of a shelf comes to stand among the new ones -/
def np (p beg k : Int) : Int := if beg + k < p then k else k + 1
/-- how many of the first k old folders of a shelf are moved -/
def mvn (G : Int → Int) (p lo w beg t : Int) (k : Nat) : Int := cn (fun i => decide (G (beg + i) ≠ nm lo w t (np p beg i))) k
theorem ma_rg {G : Int → Int} {n : Int} (hG : ∀ k : Int, 0 ≤ k → k < n → 0 ≤ G k ∧ G k ≤ 255) (v : Int) : -1 ≤ ma G n v ∧ ma G n v ≤ 256 := by
  unfold ma
  split
  · omega
  · split
    · have := hG v (by omega) (by omega); omega
    · omega
theorem mul_b {i w : Int} (hi : 0 ≤ i ∧ i ≤ 100) (hw : 0 ≤ w ∧ w ≤ 256) : 0 ≤ i * w ∧ i * w ≤ 25600 := by
  constructor
  · exact Int.mul_nonneg hi.1 hw.1
  · have h1 := Int.mul_le_mul_of_nonneg_left hw.2 hi.1
    omega
theorem nm_rg {lo w t i : Int} (hl : 0 ≤ lo ∧ lo ≤ 65536) (hw : 0 ≤ w ∧ w ≤ 256) (hi : 0 ≤ i ∧ i ≤ 100) (ht : 1 ≤ t) : lo ≤ nm lo w t i ∧ nm lo w t i ≤ 100000 := by
  have h1 := mul_b hi hw
  have h2 := Int.ediv_nonneg h1.1 (show 0 ≤ t by omega)
  have h3 := Int.ediv_le_self (b := t) h1.1
  unfold nm
  omega
theorem ldn_end {G : Int → Int} {n lv sh : Int} (hn : 0 ≤ n ∧ n ≤ 60) : mb G n (sh * 2 ^ lv.toNat) + ldn G n lv sh ≤ n := by
  have h2 := mb_rg (G := G) (m := (sh + 1) * 2 ^ lv.toNat) hn.1
  unfold ldn
  omega
theorem PL_rg {F : Int → Int} {n x r : Int} (hn : 0 ≤ n) (h : PL F n x r) : -1 ≤ r ∧ r < n ∨ r = -1 ∧ n = 0 := by
  rcases h with ⟨h, -⟩ | ⟨h1, h2, -⟩ <;> omega
theorem ma_in {G : Int → Int} {n v : Int} (h : 0 ≤ v ∧ v < n) : G v = ma G n v := by unfold ma; rw [if_neg (by omega), if_pos h.2]
theorem shl_b {lv sh : Int} (h : 0 ≤ lv ∧ lv ≤ 8) (hs : 0 ≤ sh ∧ sh < 256 / 2 ^ lv.toNat) : 256 / 2 ^ lv.toNat ≤ (256 : Int) ∧ 0 ≤ sh * 2 ^ lv.toNat ∧ sh * 2 ^ lv.toNat ≤ 256 ∧ 0 ≤ (sh + 1) * 2 ^ lv.toNat ∧ (sh + 1) * 2 ^ lv.toNat ≤ 256 := by
  rcases p2_cases h with ⟨e, -⟩ | ⟨e, -⟩ | ⟨e, -⟩ | ⟨e, -⟩ | ⟨e, -⟩ | ⟨e, -⟩ | ⟨e, -⟩ | ⟨e, -⟩ | ⟨e, -⟩ <;> rw [e] at hs ⊢ <;> omega
theorem shq_b {lv : Int} (h : 0 ≤ lv ∧ lv ≤ 8) : 1 ≤ 256 / (2 : Int) ^ lv.toNat ∧ 256 / (2 : Int) ^ lv.toNat ≤ 256 := by
  rcases p2_cases h with ⟨e, -⟩ | ⟨e, -⟩ | ⟨e, -⟩ | ⟨e, -⟩ | ⟨e, -⟩ | ⟨e, -⟩ | ⟨e, -⟩ | ⟨e, -⟩ | ⟨e, -⟩ <;> rw [e] <;> omega
theorem ma_q {a lv : Int} (ha : -1 ≤ a ∧ a ≤ 256) (h : 0 ≤ lv ∧ lv ≤ 8) : -1 ≤ a / 2 ^ lv.toNat ∧ a / 2 ^ lv.toNat ≤ 256 := by
  rcases p2_cases h with ⟨e, -⟩ | ⟨e, -⟩ | ⟨e, -⟩ | ⟨e, -⟩ | ⟨e, -⟩ | ⟨e, -⟩ | ⟨e, -⟩ | ⟨e, -⟩ | ⟨e, -⟩ <;> rw [e] <;> omega
end
section
def TP : State → Heap → Prop := fun _ _ => True
theorem TP_mv : mvb TP := fun _ _ _ _ h => h
def SP (D : va_G) (cI : ClassId) (base st : Nat) (Z : Nat → Nat) : State → Heap → Prop := fun U H => SW D cI base st Z U H
theorem SP_mv {D : va_G} {cI : ClassId} {base st : Nat} {Z : Nat → Nat} : mvb (SP D cI base st Z) := fun _ _ _ hW h => SW.move hW h
set_option maxHeartbeats 4000000 in
set_option maxRecDepth 100000 in
theorem c_isPlace (l : Launch) (D : va_G) (cI : ClassId) (base st : Nat) (Z : Nat → Nat) (x0 x1 x2 x5 x6 x7 : Nat) {n came MV : Int} {F G SP RF RC : Int → Int} (hn : 0 ≤ n ∧ n ≤ 60) (v : Int) (hv : (-2147483648 ≤ v ∧ v ≤ 2147483647)) (r : Int) (hr9 : r = ip n v) : pu_M l yX0_isPlace wsX0_isPlace ({ frames := 0, cells := 0, slots := 0, locals := 0 } : Room) [.ref x0, .int (iI (v))] (CP D cI base st Z x0 x1 x2 x5 x6 x7 n came MV F G SP RF RC) (r) := by
  refine pu_of (cc := cX0_isPlace) (maxL := 2) (ret := (some .boolean)) (own := RX0) (by decide) rfl rfl (Nat.le_of_ble_eq_true rfl) ?_
  intro p e s m below meth c ls B hCP hl
  obtain ⟨hx, hb, hml, hr, hts, hown, hlocks⟩ := B
  obtain ⟨⟨hK, hZL, ⟨hstb, xs, hXL, hAL⟩, hTW⟩, f, g, sp, rf, rc, hAf, hAg, hAsp, hArf, hArc, hP, hDb⟩ := id hCP
  have hl : lv_has ls 2 [(0, .ref x0), (1, .int (iI (v)))] := hl
  have hin : ∀ w ∈ u_ws RX0 TX0 8, w ∈ wsX0_isPlace := by decide +kernel
  have q_folders := hts (.fieldLink RX0 9 "ShelfMarks" "folders" "[I") (by decide +kernel)
  have q_marks := hts (.fieldLink RX0 13 "ShelfMarks" "marks" "[I") (by decide +kernel)
  have q_count := hts (.fieldLink RX0 53 "ShelfMarks" "count" "I") (by decide +kernel)
  have hz9 : r = 0 ∨ r = 1 := by rw [hr9]; unfold ip; split <;> omega
  refine lv_iload_n hx hb dX0_isPlace_0 rfl (lv_at hl 1 rfl) ?_
  refine pv_if_lt (tgt := 34) hx hb dX0_isPlace_1 (by decide) (by omega) (fun c_1 => ?_) (fun c_1 => ?_)
  · -- 1t
    refine pv_iconst hx hb dX0_isPlace_34 ?_
    exact pu_zret hx hb hr hlocks dX0_isPlace_35 (by rw [hr9]; unfold ip; split <;> omega) hz9
  · -- 1f
    refine lv_iload_n hx hb dX0_isPlace_4 rfl (lv_at hl 1 rfl) ?_
    refine lv_aload_n hx hb dX0_isPlace_5 rfl (lv_at hl 0 rfl) ?_
    refine va_get (D := D) (ci := 0) (v := .int (iI (n))) (C := RX0) (T := TX0) (N := 8) hx hb hts hin hown hK hP 0 rfl rfl 2 (by decide) q_count (fun _ h9 => h9) rfl dX0_isPlace_6 ?_
    refine pv_icmp_ge (tgt := 34) hx hb dX0_isPlace_9 (by decide) (by omega) (fun c_9 => ?_) (fun c_9 => ?_)
    · -- 9t
      refine pv_iconst hx hb dX0_isPlace_34 ?_
      exact pu_zret hx hb hr hlocks dX0_isPlace_35 (by rw [hr9]; unfold ip; split <;> omega) hz9
    · -- 9f
      refine lv_iload_n hx hb dX0_isPlace_12 rfl (lv_at hl 1 rfl) ?_
      refine lv_aload_n hx hb dX0_isPlace_13 rfl (lv_at hl 0 rfl) ?_
      refine va_get (D := D) (ci := 0) (v := .ref x1) (C := RX0) (T := TX0) (N := 8) hx hb hts hin hown hK hP 0 rfl rfl 0 (by decide) q_folders (fun _ h9 => h9) rfl dX0_isPlace_14 ?_
      refine pv_alen (v := 60) hx hb hK hP 1 0 rfl rfl (show Int32.ofNat 60 = iI 60 by decide +kernel) dX0_isPlace_17 ?_
      refine pv_icmp_ge (tgt := 34) hx hb dX0_isPlace_18 (by decide) (by omega) (fun c_18 => ?_) (fun c_18 => ?_)
      · -- 18t
        refine pv_iconst hx hb dX0_isPlace_34 ?_
        exact pu_zret hx hb hr hlocks dX0_isPlace_35 (by rw [hr9]; unfold ip; split <;> omega) hz9
      · -- 18f
        refine lv_iload_n hx hb dX0_isPlace_21 rfl (lv_at hl 1 rfl) ?_
        refine lv_aload_n hx hb dX0_isPlace_22 rfl (lv_at hl 0 rfl) ?_
        refine va_get (D := D) (ci := 0) (v := .ref x2) (C := RX0) (T := TX0) (N := 8) hx hb hts hin hown hK hP 0 rfl rfl 1 (by decide) q_marks (fun _ h9 => h9) rfl dX0_isPlace_23 ?_
        refine pv_alen (v := 60) hx hb hK hP 2 0 rfl rfl (show Int32.ofNat 60 = iI 60 by decide +kernel) dX0_isPlace_26 ?_
        refine pv_icmp_ge (tgt := 34) hx hb dX0_isPlace_27 (by decide) (by omega) (fun c_27 => ?_) (fun c_27 => ?_)
        · -- 27t
          refine pv_iconst hx hb dX0_isPlace_34 ?_
          exact pu_zret hx hb hr hlocks dX0_isPlace_35 (by rw [hr9]; unfold ip; split <;> omega) hz9
        · -- 27f
          refine pv_iconst hx hb dX0_isPlace_30 ?_
          refine lv_goto (tgt := 35) hx hb dX0_isPlace_31 (by decide) ?_
          exact pu_zret hx hb hr hlocks dX0_isPlace_35 (by rw [hr9]; unfold ip; split <;> omega) hz9
set_option maxHeartbeats 4000000 in
set_option maxRecDepth 100000 in
theorem c_placeOf (l : Launch) (D : va_G) (cI : ClassId) (base st : Nat) (Z : Nat → Nat) (x0 x1 x2 x5 x6 x7 : Nat) {n came MV : Int} {F G SP RF RC : Int → Int} (hn : 0 ≤ n ∧ n ≤ 60) (hF : ∀ k : Int, 0 ≤ k → k < n → 0 ≤ F k ∧ F k < 200) (x : Int) (hxr : (-2147483648 ≤ x ∧ x ≤ 2147483647)) (r : Int) (hr9 : PL F n x r) : pu_M l yX0_placeOf wsX0_placeOf ({ frames := 0, cells := 0, slots := 0, locals := 0 } : Room) [.ref x0, .int (iI (x))] (CP D cI base st Z x0 x1 x2 x5 x6 x7 n came MV F G SP RF RC) (r) := by
  refine pu_of (cc := cX0_placeOf) (maxL := 3) (ret := (some .int)) (own := RX0) (by decide) rfl rfl (Nat.le_of_ble_eq_true rfl) ?_
  intro p e s m below meth c ls B hCP hl
  obtain ⟨hx, hb, hml, hr, hts, hown, hlocks⟩ := B
  obtain ⟨⟨hK, hZL, ⟨hstb, xs, hXL, hAL⟩, hTW⟩, f, g, sp, rf, rc, hAf, hAg, hAsp, hArf, hArc, hP, hDb⟩ := id hCP
  have hl : lv_has ls 3 [(0, .ref x0), (1, .int (iI (x)))] := hl
  have hin : ∀ w ∈ u_ws RX0 TX0 8, w ∈ wsX0_placeOf := by decide +kernel
  have q_folders := hts (.fieldLink RX0 9 "ShelfMarks" "folders" "[I") (by decide +kernel)
  have q_count := hts (.fieldLink RX0 53 "ShelfMarks" "count" "I") (by decide +kernel)
  refine pv_iconst hx hb dX0_placeOf_0 ?_
  refine lv_istore_n (lv' := [(2, .int (iI (0))), (0, .ref x0), (1, .int (iI (x)))]) hx hb dX0_placeOf_1 rfl hl (by decide) rfl (fun ls hl => ?_)
  have hloop2 : ∀ (fuel : Nat) (i : Int) (ls : Array Slot), (n - i) < fuel → (0 ≤ i ∧ i ≤ n) → (∀ k : Int, 0 ≤ k → k < i → F k ≠ x) → lv_has ls 3 [(0, .ref x0), (1, .int (iI (x))), (2, .int (iI (i)))] → W p l e ({ frames := 0, cells := 0, slots := 0, locals := 0 } : Room) s m ([.ref x0, .int (iI (x))] : List Value).toArray below meth c s.heap [] 0 0 (MQ below (pu_Q (r)) ([.ref x0, .int (iI (x))] : List Value).toArray s 0 0 (fun _ => False)) (F0 m 2 ls []) := by
    intro fuel
    induction fuel with
    | zero => intro i ls hfu hi hno hl; exfalso; omega
    | succ fuel ih =>
      intro i ls hfu hi hno hl
      refine lv_iload_n hx hb dX0_placeOf_2 rfl (lv_at hl 2 rfl) ?_
      refine lv_aload_n hx hb dX0_placeOf_3 rfl (lv_at hl 0 rfl) ?_
      refine va_get (D := D) (ci := 0) (v := .int (iI (n))) (C := RX0) (T := TX0) (N := 8) hx hb hts hin hown hK hP 0 rfl rfl 2 (by decide) q_count (fun _ h9 => h9) rfl dX0_placeOf_4 ?_
      refine pv_icmp_ge (tgt := 37) hx hb dX0_placeOf_7 (by decide) (by omega) (fun c_7 => ?_) (fun c_7 => ?_)
      · -- 7t
        refine pv_iconst hx hb dX0_placeOf_37 ?_
        exact pu_iret hx hb hr hlocks dX0_placeOf_38 (by rcases hr9 with ⟨h, -⟩ | ⟨h1, h2, h3, -⟩; exact h.symm; exact absurd h3 (hno r h1 (by omega)))
      · -- 7f
        refine lv_iload_n hx hb dX0_placeOf_10 rfl (lv_at hl 2 rfl) ?_
        refine lv_aload_n hx hb dX0_placeOf_11 rfl (lv_at hl 0 rfl) ?_
        refine va_get (D := D) (ci := 0) (v := .ref x1) (C := RX0) (T := TX0) (N := 8) hx hb hts hin hown hK hP 0 rfl rfl 0 (by decide) q_folders (fun _ h9 => h9) rfl dX0_placeOf_12 ?_
        refine pv_alen (v := 60) hx hb hK hP 1 0 rfl rfl (show Int32.ofNat 60 = iI 60 by decide +kernel) dX0_placeOf_15 ?_
        refine pv_icmp_ge (tgt := 37) hx hb dX0_placeOf_16 (by decide) (by omega) (fun c_16 => ?_) (fun c_16 => ?_)
        · exfalso; omega
        · -- 16f
          refine lv_aload_n hx hb dX0_placeOf_19 rfl (lv_at hl 0 rfl) ?_
          refine va_get (D := D) (ci := 0) (v := .ref x1) (C := RX0) (T := TX0) (N := 8) hx hb hts hin hown hK hP 0 rfl rfl 0 (by decide) q_folders (fun _ h9 => h9) rfl dX0_placeOf_20 ?_
          refine lv_iload_n hx hb dX0_placeOf_23 rfl (lv_at hl 2 rfl) ?_
          refine pv_iald (i := i) (v := F (i)) hx hb hK hP 1 0 rfl rfl (by omega) (by decide) (hAf _ (by omega) (by omega)) dX0_placeOf_24 ?_
          have hfi := hF i (by omega) (by omega)
          refine lv_iload_n hx hb dX0_placeOf_25 rfl (lv_at hl 1 rfl) ?_
          refine pv_icmp_ne (tgt := 31) hx hb dX0_placeOf_26 (by decide) (by omega) (fun c_26 => ?_) (fun c_26 => ?_)
          · -- 26t
            refine pv_iinc (lv' := [(2, .int (iI (i + 1))), (0, .ref x0), (1, .int (iI (x)))]) hx hb dX0_placeOf_31 hl (k := 2) rfl (by decide) rfl (fun ls hl => ?_)
            refine lv_goto (tgt := 2) hx hb dX0_placeOf_34 (by decide) ?_
            exact ih (i + 1) ls (by omega) (by omega) (fun k h0 h1 => by rcases (show k < i ∨ k = i by omega) with h | h; exact hno k h0 h; rw [h]; exact c_26) (lv_sub hl [1, 2, 0] rfl)
          · -- 26f
            refine lv_iload_n hx hb dX0_placeOf_29 rfl (lv_at hl 2 rfl) ?_
            exact pu_iret hx hb hr hlocks dX0_placeOf_30 (by rcases hr9 with ⟨-, h⟩ | ⟨h1, h2, h3, h4⟩; exact absurd c_26 (h i (by omega) (by omega)); rcases (show i < r ∨ r < i ∨ i = r by omega) with q | q | q; exact absurd c_26 (h4 i (by omega) q); exact absurd h3 (hno r h1 q); exact q)
  exact hloop2 ((n : Int).toNat + 1) (0) ls (by omega) (by omega) (fun k h0 h1 => absurd h1 (by omega)) (lv_sub hl [1, 2, 0] rfl)
set_option maxHeartbeats 4000000 in
set_option maxRecDepth 100000 in
theorem c_folderAt (l : Launch) (D : va_G) (cI : ClassId) (base st : Nat) (Z : Nat → Nat) (x0 x1 x2 x5 x6 x7 : Nat) {n came MV : Int} {F G SP RF RC : Int → Int} (hn : 0 ≤ n ∧ n ≤ 60) (v : Int) (hv : (-2147483648 ≤ v ∧ v ≤ 2147483647)) (r : Int) (hr9 : r = fa F n v) : pu_M l yX0_folderAt wsX0_folderAt ({ frames := 1, cells := 0, slots := 0, locals := 21 } : Room) [.ref x0, .int (iI (v))] (CP D cI base st Z x0 x1 x2 x5 x6 x7 n came MV F G SP RF RC) (r) := by
  refine pu_of (cc := cX0_folderAt) (maxL := 2) (ret := (some .int)) (own := RX0) (by decide) rfl rfl (Nat.le_of_ble_eq_true rfl) ?_
  intro p e s m below meth c ls B hCP hl
  obtain ⟨hx, hb, hml, hr, hts, hown, hlocks⟩ := B
  obtain ⟨⟨hK, hZL, ⟨hstb, xs, hXL, hAL⟩, hTW⟩, f, g, sp, rf, rc, hAf, hAg, hAsp, hArf, hArc, hP, hDb⟩ := id hCP
  have hl : lv_has ls 2 [(0, .ref x0), (1, .int (iI (v)))] := hl
  have hin : ∀ w ∈ u_ws RX0 TX0 8, w ∈ wsX0_folderAt := by decide +kernel
  have q_folders := hts (.fieldLink RX0 9 "ShelfMarks" "folders" "[I") (by decide +kernel)
  refine lv_aload_n hx hb dX0_folderAt_0 rfl (lv_at hl 0 rfl) ?_
  refine lv_iload_n hx hb dX0_folderAt_1 rfl (lv_at hl 1 rfl) ?_
  by_cases hv9 : 0 ≤ v ∧ v < n
  · -- A
    refine pu_callV (v := 1) (As := [.int (iI (v))]) (rest := []) CP_mv ⟨hx, hb, hml, hown, hts⟩ (c_isPlace l D cI base st Z x0 x1 x2 x5 x6 x7 hn v hv 1 (by unfold ip; rw [if_pos hv9])) (cwV 1 hts gX0_folderAt_X0_isPlace rfl rfl rfl (by decide +kernel) ⟨(Nat.le_of_ble_eq_true rfl), (Nat.le_of_ble_eq_true rfl)⟩) hCP (CP_rc hCP) rfl rfl hl.1 (Nat.le_of_ble_eq_true rfl) dX0_folderAt_2 ⟨Nat.zero_le _, Nat.zero_le _⟩ ?_
    refine pv_if_eq (tgt := 17) hx hb dX0_folderAt_5 (by decide) (by omega) (fun c_5 => ?_) (fun c_5 => ?_)
    · exact absurd c_5 (by omega)
    · -- 5f
      refine lv_aload_n hx hb dX0_folderAt_8 rfl (lv_at hl 0 rfl) ?_
      refine va_get (D := D) (ci := 0) (v := .ref x1) (C := RX0) (T := TX0) (N := 8) hx hb hts hin hown hK hP 0 rfl rfl 0 (by decide) q_folders (fun _ h9 => h9) rfl dX0_folderAt_9 ?_
      refine lv_iload_n hx hb dX0_folderAt_12 rfl (lv_at hl 1 rfl) ?_
      refine pv_iald (i := v) (v := F (v)) hx hb hK hP 1 0 rfl rfl (by omega) (by decide) (hAf _ (by omega) (by omega)) dX0_folderAt_13 ?_
      refine lv_goto (tgt := 18) hx hb dX0_folderAt_14 (by decide) ?_
      exact pu_iret hx hb hr hlocks dX0_folderAt_18 (by rw [hr9]; unfold fa; rw [if_pos hv9])
  · -- B
    refine pu_callV (v := 0) (As := [.int (iI (v))]) (rest := []) CP_mv ⟨hx, hb, hml, hown, hts⟩ (c_isPlace l D cI base st Z x0 x1 x2 x5 x6 x7 hn v hv 0 (by unfold ip; rw [if_neg hv9])) (cwV 1 hts gX0_folderAt_X0_isPlace rfl rfl rfl (by decide +kernel) ⟨(Nat.le_of_ble_eq_true rfl), (Nat.le_of_ble_eq_true rfl)⟩) hCP (CP_rc hCP) rfl rfl hl.1 (Nat.le_of_ble_eq_true rfl) dX0_folderAt_2 ⟨Nat.zero_le _, Nat.zero_le _⟩ ?_
    refine pv_if_eq (tgt := 17) hx hb dX0_folderAt_5 (by decide) (by omega) (fun c_5 => ?_) (fun c_5 => ?_)
    · -- 5t
      refine pv_iconst hx hb dX0_folderAt_17 ?_
      exact pu_iret hx hb hr hlocks dX0_folderAt_18 (by rw [hr9]; unfold fa; rw [if_neg hv9])
    · exact absurd c_5 (by omega)
set_option maxHeartbeats 4000000 in
set_option maxRecDepth 100000 in
theorem c_markAt (l : Launch) (D : va_G) (cI : ClassId) (base st : Nat) (Z : Nat → Nat) (x0 x1 x2 x5 x6 x7 : Nat) {n came MV : Int} {F G SP RF RC : Int → Int} (hn : 0 ≤ n ∧ n ≤ 60) (v : Int) (hv : (-2147483648 ≤ v ∧ v ≤ 2147483647)) (r : Int) (hr9 : r = ma G n v) : pu_M l yX0_markAt wsX0_markAt ({ frames := 1, cells := 0, slots := 0, locals := 21 } : Room) [.ref x0, .int (iI (v))] (CP D cI base st Z x0 x1 x2 x5 x6 x7 n came MV F G SP RF RC) (r) := by
  refine pu_of (cc := cX0_markAt) (maxL := 2) (ret := (some .int)) (own := RX0) (by decide) rfl rfl (Nat.le_of_ble_eq_true rfl) ?_
  intro p e s m below meth c ls B hCP hl
  obtain ⟨hx, hb, hml, hr, hts, hown, hlocks⟩ := B
  obtain ⟨⟨hK, hZL, ⟨hstb, xs, hXL, hAL⟩, hTW⟩, f, g, sp, rf, rc, hAf, hAg, hAsp, hArf, hArc, hP, hDb⟩ := id hCP
  have hl : lv_has ls 2 [(0, .ref x0), (1, .int (iI (v)))] := hl
  have hin : ∀ w ∈ u_ws RX0 TX0 8, w ∈ wsX0_markAt := by decide +kernel
  have q_marks := hts (.fieldLink RX0 13 "ShelfMarks" "marks" "[I") (by decide +kernel)
  refine lv_iload_n hx hb dX0_markAt_0 rfl (lv_at hl 1 rfl) ?_
  refine pv_if_ge (tgt := 6) hx hb dX0_markAt_1 (by decide) (by omega) (fun c_1 => ?_) (fun c_1 => ?_)
  · -- 1t
    refine lv_aload_n hx hb dX0_markAt_6 rfl (lv_at hl 0 rfl) ?_
    refine lv_iload_n hx hb dX0_markAt_7 rfl (lv_at hl 1 rfl) ?_
    by_cases hv9 : 0 ≤ v ∧ v < n
    · -- A
      refine pu_callV (v := 1) (As := [.int (iI (v))]) (rest := []) CP_mv ⟨hx, hb, hml, hown, hts⟩ (c_isPlace l D cI base st Z x0 x1 x2 x5 x6 x7 hn v hv 1 (by unfold ip; rw [if_pos hv9])) (cwV 1 hts gX0_markAt_X0_isPlace rfl rfl rfl (by decide +kernel) ⟨(Nat.le_of_ble_eq_true rfl), (Nat.le_of_ble_eq_true rfl)⟩) hCP (CP_rc hCP) rfl rfl hl.1 (Nat.le_of_ble_eq_true rfl) dX0_markAt_8 ⟨Nat.zero_le _, Nat.zero_le _⟩ ?_
      refine pv_if_eq (tgt := 23) hx hb dX0_markAt_11 (by decide) (by omega) (fun c_11 => ?_) (fun c_11 => ?_)
      · exact absurd c_11 (by omega)
      · -- 11f
        refine lv_aload_n hx hb dX0_markAt_14 rfl (lv_at hl 0 rfl) ?_
        refine va_get (D := D) (ci := 0) (v := .ref x2) (C := RX0) (T := TX0) (N := 8) hx hb hts hin hown hK hP 0 rfl rfl 1 (by decide) q_marks (fun _ h9 => h9) rfl dX0_markAt_15 ?_
        refine lv_iload_n hx hb dX0_markAt_18 rfl (lv_at hl 1 rfl) ?_
        refine pv_iald (i := v) (v := G (v)) hx hb hK hP 2 0 rfl rfl (by omega) (by decide) (hAg _ (by omega) (by omega)) dX0_markAt_19 ?_
        refine lv_goto (tgt := 26) hx hb dX0_markAt_20 (by decide) ?_
        exact pu_iret hx hb hr hlocks dX0_markAt_26 (by rw [hr9]; unfold ma; rw [if_neg (by omega), if_pos hv9.2])
    · -- B
      refine pu_callV (v := 0) (As := [.int (iI (v))]) (rest := []) CP_mv ⟨hx, hb, hml, hown, hts⟩ (c_isPlace l D cI base st Z x0 x1 x2 x5 x6 x7 hn v hv 0 (by unfold ip; rw [if_neg hv9])) (cwV 1 hts gX0_markAt_X0_isPlace rfl rfl rfl (by decide +kernel) ⟨(Nat.le_of_ble_eq_true rfl), (Nat.le_of_ble_eq_true rfl)⟩) hCP (CP_rc hCP) rfl rfl hl.1 (Nat.le_of_ble_eq_true rfl) dX0_markAt_8 ⟨Nat.zero_le _, Nat.zero_le _⟩ ?_
      refine pv_if_eq (tgt := 23) hx hb dX0_markAt_11 (by decide) (by omega) (fun c_11 => ?_) (fun c_11 => ?_)
      · -- 11t
        refine pv_sipush hx hb dX0_markAt_23 (by decide +kernel) ?_
        exact pu_iret hx hb hr hlocks dX0_markAt_26 (by rw [hr9]; unfold ma; rw [if_neg (by omega), if_neg (by omega)])
      · exact absurd c_11 (by omega)
  · -- 1f
    refine pv_iconst hx hb dX0_markAt_4 ?_
    exact pu_iret hx hb hr hlocks dX0_markAt_5 (by rw [hr9]; unfold ma; rw [if_pos c_1])
set_option maxHeartbeats 4000000 in
set_option maxRecDepth 100000 in
theorem c_marksBelow (l : Launch) (D : va_G) (cI : ClassId) (base st : Nat) (Z : Nat → Nat) (x0 x1 x2 x5 x6 x7 : Nat) {n came MV : Int} {F G SP RF RC : Int → Int} (hn : 0 ≤ n ∧ n ≤ 60) (hG : ∀ k : Int, 0 ≤ k → k < n → 0 ≤ G k ∧ G k ≤ 255) (x : Int) (hxr : (-2147483648 ≤ x ∧ x ≤ 2147483647)) (r : Int) (hr9 : FI G n x r) : pu_M l yX0_marksBelow wsX0_marksBelow ({ frames := 0, cells := 0, slots := 0, locals := 0 } : Room) [.ref x0, .int (iI (x))] (CP D cI base st Z x0 x1 x2 x5 x6 x7 n came MV F G SP RF RC) (r) := by
  refine pu_of (cc := cX0_marksBelow) (maxL := 3) (ret := (some .int)) (own := RX0) (by decide) rfl rfl (Nat.le_of_ble_eq_true rfl) ?_
  intro p e s m below meth c ls B hCP hl
  obtain ⟨hx, hb, hml, hr, hts, hown, hlocks⟩ := B
  obtain ⟨⟨hK, hZL, ⟨hstb, xs, hXL, hAL⟩, hTW⟩, f, g, sp, rf, rc, hAf, hAg, hAsp, hArf, hArc, hP, hDb⟩ := id hCP
  have hl : lv_has ls 3 [(0, .ref x0), (1, .int (iI (x)))] := hl
  have hin : ∀ w ∈ u_ws RX0 TX0 8, w ∈ wsX0_marksBelow := by decide +kernel
  have q_marks := hts (.fieldLink RX0 13 "ShelfMarks" "marks" "[I") (by decide +kernel)
  have q_count := hts (.fieldLink RX0 53 "ShelfMarks" "count" "I") (by decide +kernel)
  refine pv_iconst hx hb dX0_marksBelow_0 ?_
  refine lv_istore_n (lv' := [(2, .int (iI (0))), (0, .ref x0), (1, .int (iI (x)))]) hx hb dX0_marksBelow_1 rfl hl (by decide) rfl (fun ls hl => ?_)
  have hloop2 : ∀ (fuel : Nat) (i : Int) (ls : Array Slot), (n - i) < fuel → (0 ≤ i ∧ i ≤ n) → (∀ k : Int, 0 ≤ k → k < i → G k < x) → lv_has ls 3 [(0, .ref x0), (1, .int (iI (x))), (2, .int (iI (i)))] → W p l e ({ frames := 0, cells := 0, slots := 0, locals := 0 } : Room) s m ([.ref x0, .int (iI (x))] : List Value).toArray below meth c s.heap [] 0 0 (MQ below (pu_Q (r)) ([.ref x0, .int (iI (x))] : List Value).toArray s 0 0 (fun _ => False)) (F0 m 2 ls []) := by
    intro fuel
    induction fuel with
    | zero => intro i ls hfu hi hno hl; exfalso; omega
    | succ fuel ih =>
      intro i ls hfu hi hno hl
      refine lv_iload_n hx hb dX0_marksBelow_2 rfl (lv_at hl 2 rfl) ?_
      refine lv_aload_n hx hb dX0_marksBelow_3 rfl (lv_at hl 0 rfl) ?_
      refine va_get (D := D) (ci := 0) (v := .int (iI (n))) (C := RX0) (T := TX0) (N := 8) hx hb hts hin hown hK hP 0 rfl rfl 2 (by decide) q_count (fun _ h9 => h9) rfl dX0_marksBelow_4 ?_
      refine pv_icmp_ge (tgt := 35) hx hb dX0_marksBelow_7 (by decide) (by omega) (fun c_7 => ?_) (fun c_7 => ?_)
      · -- 7t
        refine lv_iload_n hx hb dX0_marksBelow_35 rfl (lv_at hl 2 rfl) ?_
        exact pu_iret hx hb hr hlocks dX0_marksBelow_36 (by exact FI_un (⟨by omega, hno, fun h => by omega⟩ : FI G n x i) hr9)
      · -- 7f
        refine lv_iload_n hx hb dX0_marksBelow_10 rfl (lv_at hl 2 rfl) ?_
        refine lv_aload_n hx hb dX0_marksBelow_11 rfl (lv_at hl 0 rfl) ?_
        refine va_get (D := D) (ci := 0) (v := .ref x2) (C := RX0) (T := TX0) (N := 8) hx hb hts hin hown hK hP 0 rfl rfl 1 (by decide) q_marks (fun _ h9 => h9) rfl dX0_marksBelow_12 ?_
        refine pv_alen (v := 60) hx hb hK hP 2 0 rfl rfl (show Int32.ofNat 60 = iI 60 by decide +kernel) dX0_marksBelow_15 ?_
        refine pv_icmp_ge (tgt := 35) hx hb dX0_marksBelow_16 (by decide) (by omega) (fun c_16 => ?_) (fun c_16 => ?_)
        · exfalso; omega
        · -- 16f
          refine lv_aload_n hx hb dX0_marksBelow_19 rfl (lv_at hl 0 rfl) ?_
          refine va_get (D := D) (ci := 0) (v := .ref x2) (C := RX0) (T := TX0) (N := 8) hx hb hts hin hown hK hP 0 rfl rfl 1 (by decide) q_marks (fun _ h9 => h9) rfl dX0_marksBelow_20 ?_
          refine lv_iload_n hx hb dX0_marksBelow_23 rfl (lv_at hl 2 rfl) ?_
          refine pv_iald (i := i) (v := G (i)) hx hb hK hP 2 0 rfl rfl (by omega) (by decide) (hAg _ (by omega) (by omega)) dX0_marksBelow_24 ?_
          have hgi := hG i (by omega) (by omega)
          refine lv_iload_n hx hb dX0_marksBelow_25 rfl (lv_at hl 1 rfl) ?_
          refine pv_icmp_ge (tgt := 35) hx hb dX0_marksBelow_26 (by decide) (by omega) (fun c_26 => ?_) (fun c_26 => ?_)
          · -- 26t
            refine lv_iload_n hx hb dX0_marksBelow_35 rfl (lv_at hl 2 rfl) ?_
            exact pu_iret hx hb hr hlocks dX0_marksBelow_36 (by exact FI_un (⟨by omega, hno, fun h => c_26⟩ : FI G n x i) hr9)
          · -- 26f
            refine pv_iinc (lv' := [(2, .int (iI (i + 1))), (0, .ref x0), (1, .int (iI (x)))]) hx hb dX0_marksBelow_29 hl (k := 2) rfl (by decide) rfl (fun ls hl => ?_)
            refine lv_goto (tgt := 2) hx hb dX0_marksBelow_32 (by decide) ?_
            exact ih (i + 1) ls (by omega) (by omega) (fun k h0 h1 => by rcases (show k < i ∨ k = i by omega) with h | h; exact hno k h0 h; rw [h]; exact c_26) (lv_sub hl [1, 2, 0] rfl)
  exact hloop2 ((n : Int).toNat + 1) (0) ls (by omega) (by omega) (fun k h0 h1 => absurd h1 (by omega)) (lv_sub hl [1, 2, 0] rfl)
set_option maxHeartbeats 4000000 in
set_option maxRecDepth 100000 in
theorem c_firstMark (l : Launch) (lv sh : Int) (hlv : 0 ≤ lv ∧ lv ≤ 30) (hsh : 0 ≤ sh) (hb9 : sh * 2 ^ lv.toNat ≤ 2147483647) (r : Int) (hr9 : r = sh * 2 ^ lv.toNat) : pu_M l yX0_firstMark wsX0_firstMark ({ frames := 0, cells := 0, slots := 0, locals := 0 } : Room) [.int (iI (lv)), .int (iI (sh))] TP (r) := by
  refine pu_of (cc := cX0_firstMark) (maxL := 2) (ret := (some .int)) (own := RX0) (by decide) rfl rfl (Nat.le_of_ble_eq_true rfl) ?_
  intro p e s m below meth c ls B hCP hl
  obtain ⟨hx, hb, hml, hr, hts, hown, hlocks⟩ := B
  have hl : lv_has ls 2 [(0, .int (iI (lv))), (1, .int (iI (sh)))] := hl
  refine lv_iload_n hx hb dX0_firstMark_0 rfl (lv_at hl 1 rfl) ?_
  refine lv_iload_n hx hb dX0_firstMark_1 rfl (lv_at hl 0 rfl) ?_
  refine pv_ishl hx hb dX0_firstMark_2 hsh hlv hb9 ?_
  exact pu_iret hx hb hr hlocks dX0_firstMark_3 (by exact hr9.symm)
set_option maxHeartbeats 4000000 in
set_option maxRecDepth 100000 in
theorem c_shelfSize (l : Launch) (lv : Int) (hlv : 0 ≤ lv ∧ lv ≤ 8) (r : Int) (hr9 : r = 2 ^ lv.toNat) : pu_M l yX0_shelfSize wsX0_shelfSize ({ frames := 0, cells := 0, slots := 0, locals := 0 } : Room) [.int (iI (lv))] TP (r) := by
  refine pu_of (cc := cX0_shelfSize) (maxL := 1) (ret := (some .int)) (own := RX0) (by decide) rfl rfl (Nat.le_of_ble_eq_true rfl) ?_
  intro p e s m below meth c ls B hCP hl
  obtain ⟨hx, hb, hml, hr, hts, hown, hlocks⟩ := B
  have hl : lv_has ls 1 [(0, .int (iI (lv)))] := hl
  refine pv_iconst hx hb dX0_shelfSize_0 ?_
  refine lv_iload_n hx hb dX0_shelfSize_1 rfl (lv_at hl 0 rfl) ?_
  have hp2 := p2_rg hlv
  refine pv_ishl hx hb dX0_shelfSize_2 (by omega) (by omega) (by omega) ?_
  exact pu_iret hx hb hr hlocks dX0_shelfSize_3 (by rw [hr9]; omega)
set_option maxHeartbeats 4000000 in
set_option maxRecDepth 100000 in
theorem c_foldersOn (l : Launch) (D : va_G) (cI : ClassId) (base st : Nat) (Z : Nat → Nat) (x0 x1 x2 x5 x6 x7 : Nat) {n came MV : Int} {F G SP RF RC : Int → Int} (hn : 0 ≤ n ∧ n ≤ 60) (hG : ∀ k : Int, 0 ≤ k → k < n → 0 ≤ G k ∧ G k ≤ 255) (hs : SD G n) (lv sh : Int) (hlv : 0 ≤ lv ∧ lv ≤ 8) (hsh : 0 ≤ sh) (hb9 : sh * 2 ^ lv.toNat ≤ 65536 ∧ (sh + 1) * 2 ^ lv.toNat ≤ 65536 ∧ 0 ≤ sh * 2 ^ lv.toNat ∧ 0 ≤ (sh + 1) * 2 ^ lv.toNat) (r : Int) (hr9 : r = ldn G n lv sh) : pu_M l yX0_foldersOn wsX0_foldersOn ({ frames := 1, cells := 0, slots := 0, locals := 22 } : Room) [.ref x0, .int (iI (lv)), .int (iI (sh))] (CP D cI base st Z x0 x1 x2 x5 x6 x7 n came MV F G SP RF RC) (r) := by
  refine pu_of (cc := cX0_foldersOn) (maxL := 3) (ret := (some .int)) (own := RX0) (by decide) rfl rfl (Nat.le_of_ble_eq_true rfl) ?_
  intro p e s m below meth c ls B hCP hl
  obtain ⟨hx, hb, hml, hr, hts, hown, hlocks⟩ := B
  obtain ⟨⟨hK, hZL, ⟨hstb, xs, hXL, hAL⟩, hTW⟩, f, g, sp, rf, rc, hAf, hAg, hAsp, hArf, hArc, hP, hDb⟩ := id hCP
  have hl : lv_has ls 3 [(0, .ref x0), (1, .int (iI (lv))), (2, .int (iI (sh)))] := hl
  refine lv_aload_n hx hb dX0_foldersOn_0 rfl (lv_at hl 0 rfl) ?_
  refine lv_iload_n hx hb dX0_foldersOn_1 rfl (lv_at hl 1 rfl) ?_
  refine lv_iload_n hx hb dX0_foldersOn_2 rfl (lv_at hl 2 rfl) ?_
  refine pv_iconst hx hb dX0_foldersOn_3 ?_
  refine pv_iadd hx hb dX0_foldersOn_4 ?_
  refine pu_callS (v := (sh + 1) * 2 ^ lv.toNat) (As := [.int (iI (lv)), .int (iI ((sh) + (1)))]) (rest := [.ref x0]) TP_mv ⟨hx, hb, hml, hown, hts⟩ (c_firstMark l lv (sh + 1) (by omega) (by omega) (by omega) _ rfl) (va_cwS 2 hts gX0_foldersOn_X0_firstMark rfl rfl rfl (by decide +kernel) ⟨(Nat.le_of_ble_eq_true rfl), (Nat.le_of_ble_eq_true rfl)⟩) trivial rfl rfl hl.1 (Nat.le_of_ble_eq_true rfl) dX0_foldersOn_5 ⟨Nat.zero_le _, Nat.zero_le _⟩ ?_
  refine pu_callV (v := mb G n ((sh + 1) * 2 ^ lv.toNat)) (As := [.int (iI ((sh + 1) * 2 ^ lv.toNat))]) (rest := []) CP_mv ⟨hx, hb, hml, hown, hts⟩ (c_marksBelow l D cI base st Z x0 x1 x2 x5 x6 x7 hn hG _ (by omega) _ (mb_FI _ hn.1 hs)) (cwV 1 hts gX0_foldersOn_X0_marksBelow rfl rfl rfl (by decide +kernel) ⟨(Nat.le_of_ble_eq_true rfl), (Nat.le_of_ble_eq_true rfl)⟩) hCP (CP_rc hCP) rfl rfl hl.1 (Nat.le_of_ble_eq_true rfl) dX0_foldersOn_8 ⟨Nat.zero_le _, Nat.zero_le _⟩ ?_
  refine lv_aload_n hx hb dX0_foldersOn_11 rfl (lv_at hl 0 rfl) ?_
  refine lv_iload_n hx hb dX0_foldersOn_12 rfl (lv_at hl 1 rfl) ?_
  refine lv_iload_n hx hb dX0_foldersOn_13 rfl (lv_at hl 2 rfl) ?_
  refine pu_callS (v := sh * 2 ^ lv.toNat) (As := [.int (iI (lv)), .int (iI (sh))]) (rest := [.ref x0, .int (iI (mb G n ((sh + 1) * 2 ^ lv.toNat)))]) TP_mv ⟨hx, hb, hml, hown, hts⟩ (c_firstMark l lv sh (by omega) hsh (by omega) _ rfl) (va_cwS 2 hts gX0_foldersOn_X0_firstMark rfl rfl rfl (by decide +kernel) ⟨(Nat.le_of_ble_eq_true rfl), (Nat.le_of_ble_eq_true rfl)⟩) trivial rfl rfl hl.1 (Nat.le_of_ble_eq_true rfl) dX0_foldersOn_14 ⟨Nat.zero_le _, Nat.zero_le _⟩ ?_
  refine pu_callV (v := mb G n (sh * 2 ^ lv.toNat)) (As := [.int (iI (sh * 2 ^ lv.toNat))]) (rest := [.int (iI (mb G n ((sh + 1) * 2 ^ lv.toNat)))]) CP_mv ⟨hx, hb, hml, hown, hts⟩ (c_marksBelow l D cI base st Z x0 x1 x2 x5 x6 x7 hn hG _ (by omega) _ (mb_FI _ hn.1 hs)) (cwV 1 hts gX0_foldersOn_X0_marksBelow rfl rfl rfl (by decide +kernel) ⟨(Nat.le_of_ble_eq_true rfl), (Nat.le_of_ble_eq_true rfl)⟩) hCP (CP_rc hCP) rfl rfl hl.1 (Nat.le_of_ble_eq_true rfl) dX0_foldersOn_17 ⟨Nat.zero_le _, Nat.zero_le _⟩ ?_
  refine pv_isub hx hb dX0_foldersOn_20 ?_
  exact pu_iret hx hb hr hlocks dX0_foldersOn_21 (by rw [hr9]; rfl)
set_option maxHeartbeats 4000000 in
set_option maxRecDepth 100000 in
theorem c_isLoaded (l : Launch) (D : va_G) (cI : ClassId) (base st : Nat) (Z : Nat → Nat) (x0 x1 x2 x5 x6 x7 : Nat) {n came MV : Int} {F G SP RF RC : Int → Int} (hn : 0 ≤ n ∧ n ≤ 60) (hG : ∀ k : Int, 0 ≤ k → k < n → 0 ≤ G k ∧ G k ≤ 255) (hs : SD G n) (lv sh : Int) (hlv : 0 ≤ lv ∧ lv ≤ 8) (hsh : 0 ≤ sh) (hb9 : sh * 2 ^ lv.toNat ≤ 65536 ∧ (sh + 1) * 2 ^ lv.toNat ≤ 65536 ∧ 0 ≤ sh * 2 ^ lv.toNat ∧ 0 ≤ (sh + 1) * 2 ^ lv.toNat) (r : Int) (hr9 : r = if LM lv ≤ ldn G n lv sh then 1 else 0) : pu_M l yX0_isLoaded wsX0_isLoaded ({ frames := 2, cells := 0, slots := 0, locals := 44 } : Room) [.ref x0, .int (iI (lv)), .int (iI (sh))] (CP D cI base st Z x0 x1 x2 x5 x6 x7 n came MV F G SP RF RC) (r) := by
  refine pu_of (cc := cX0_isLoaded) (maxL := 3) (ret := (some .boolean)) (own := RX0) (by decide) rfl rfl (Nat.le_of_ble_eq_true rfl) ?_
  intro p e s m below meth c ls B hCP hl
  obtain ⟨hx, hb, hml, hr, hts, hown, hlocks⟩ := B
  obtain ⟨⟨hK, hZL, ⟨hstb, xs, hXL, hAL⟩, hTW⟩, f, g, sp, rf, rc, hAf, hAg, hAsp, hArf, hArc, hP, hDb⟩ := id hCP
  have hl : lv_has ls 3 [(0, .ref x0), (1, .int (iI (lv))), (2, .int (iI (sh)))] := hl
  have q_LF := hts (.fieldLink RX0 16 "ShelfMarks" "LOADED_FROM" "[I") (by decide +kernel)
  have hz9 : r = 0 ∨ r = 1 := by rw [hr9]; split <;> omega
  refine lv_iload_n hx hb dX0_isLoaded_0 rfl (lv_at hl 1 rfl) ?_
  refine pv_if_lt (tgt := 30) hx hb dX0_isLoaded_1 (by decide) (by omega) (fun c_1 => ?_) (fun c_1 => ?_)
  · exfalso; omega
  · -- 1f
    refine lv_iload_n hx hb dX0_isLoaded_4 rfl (lv_at hl 1 rfl) ?_
    refine va_gets (A := fun q => base ≤ q) hx hb hZL va_S.rf hown q_LF (fun _ h => h) dX0_isLoaded_5 ?_
    refine pv_xlen (v := 9) hx hb hXL (by decide +kernel) dX0_isLoaded_8 ?_
    refine pv_icmp_ge (tgt := 30) hx hb dX0_isLoaded_9 (by decide) (by omega) (fun c_9 => ?_) (fun c_9 => ?_)
    · exfalso; omega
    · -- 9f
      refine lv_aload_n hx hb dX0_isLoaded_12 rfl (lv_at hl 0 rfl) ?_
      refine lv_iload_n hx hb dX0_isLoaded_13 rfl (lv_at hl 1 rfl) ?_
      refine lv_iload_n hx hb dX0_isLoaded_14 rfl (lv_at hl 2 rfl) ?_
      have hp2 := p2_rg hlv
      have hld := ldn_rg (lv := lv) (sh := sh) hn hs (by have := Int.mul_le_mul_of_nonneg_right (show sh ≤ sh + 1 by omega) (show (0 : Int) ≤ 2 ^ lv.toNat by omega); exact this)
      refine pu_callV (v := ldn G n lv sh) (As := [.int (iI (lv)), .int (iI (sh))]) (rest := []) CP_mv ⟨hx, hb, hml, hown, hts⟩ (c_foldersOn l D cI base st Z x0 x1 x2 x5 x6 x7 hn hG hs lv sh hlv hsh hb9 _ rfl) (cwV 2 hts gX0_isLoaded_X0_foldersOn rfl rfl rfl (by decide +kernel) ⟨(Nat.le_of_ble_eq_true rfl), (Nat.le_of_ble_eq_true rfl)⟩) hCP (CP_rc hCP) rfl rfl hl.1 (Nat.le_of_ble_eq_true rfl) dX0_isLoaded_15 ⟨Nat.zero_le _, Nat.zero_le _⟩ ?_
      refine va_gets (A := fun q => base ≤ q) hx hb hZL va_S.rf hown q_LF (fun _ h => h) dX0_isLoaded_18 ?_
      refine lv_iload_n hx hb dX0_isLoaded_21 rfl (lv_at hl 1 rfl) ?_
      refine pv_xld (i := lv) (v := LM (lv)) hx hb hXL (by omega) (by decide) (hAL _ (by omega) (by omega)) dX0_isLoaded_22 ?_
      have hlm := LM_rg lv
      refine pv_icmp_lt (tgt := 30) hx hb dX0_isLoaded_23 (by decide) (by omega) (fun c_23 => ?_) (fun c_23 => ?_)
      · -- 23t
        refine pv_iconst hx hb dX0_isLoaded_30 ?_
        exact pu_zret hx hb hr hlocks dX0_isLoaded_31 (by rw [hr9, if_neg (by omega)]) hz9
      · -- 23f
        refine pv_iconst hx hb dX0_isLoaded_26 ?_
        refine lv_goto (tgt := 31) hx hb dX0_isLoaded_27 (by decide) ?_
        exact pu_zret hx hb hr hlocks dX0_isLoaded_31 (by rw [hr9, if_pos (by omega)]) hz9
set_option maxHeartbeats 4000000 in
set_option maxRecDepth 100000 in
theorem c_shelfToSpread (l : Launch) (D : va_G) (cI : ClassId) (base st : Nat) (Z : Nat → Nat) (x0 x1 x2 x5 x6 x7 : Nat) {n came MV : Int} {F G SP RF RC : Int → Int} (hn : 0 ≤ n ∧ n ≤ 60) (hG : ∀ k : Int, 0 ≤ k → k < n → 0 ≤ G k ∧ G k ≤ 255) (q : Int) (hq : 0 ≤ q ∧ q ≤ n) (lv : Int) (hlv : 0 ≤ lv ∧ lv ≤ 8) (a0 : Int) (ha0 : a0 = if ma G n (q - 1) < 0 then 0 else ma G n (q - 1)) (hqn : q ≤ n) (r : Int) (hr9 : r = a0 / 2 ^ lv.toNat) : pu_M l yX0_shelfToSpread wsX0_shelfToSpread ({ frames := 2, cells := 0, slots := 0, locals := 42 } : Room) [.ref x0, .int (iI (q)), .int (iI (lv))] (CP D cI base st Z x0 x1 x2 x5 x6 x7 n came MV F G SP RF RC) (r) := by
  refine pu_of (cc := cX0_shelfToSpread) (maxL := 3) (ret := (some .int)) (own := RX0) (by decide) rfl rfl (Nat.le_of_ble_eq_true rfl) ?_
  intro p e s m below meth c ls B hCP hl
  obtain ⟨hx, hb, hml, hr, hts, hown, hlocks⟩ := B
  obtain ⟨⟨hK, hZL, ⟨hstb, xs, hXL, hAL⟩, hTW⟩, f, g, sp, rf, rc, hAf, hAg, hAsp, hArf, hArc, hP, hDb⟩ := id hCP
  have hl : lv_has ls 3 [(0, .ref x0), (1, .int (iI (q))), (2, .int (iI (lv)))] := hl
  refine lv_aload_n hx hb dX0_shelfToSpread_0 rfl (lv_at hl 0 rfl) ?_
  refine lv_iload_n hx hb dX0_shelfToSpread_1 rfl (lv_at hl 1 rfl) ?_
  refine pv_iconst hx hb dX0_shelfToSpread_2 ?_
  refine pv_isub hx hb dX0_shelfToSpread_3 ?_
  have hma : -1 ≤ ma G n (q - 1) ∧ ma G n (q - 1) ≤ 256 := ma_rg hG (q - 1)
  refine pu_callV (v := ma G n (q - 1)) (As := [.int (iI ((q) - (1)))]) (rest := []) CP_mv ⟨hx, hb, hml, hown, hts⟩ (c_markAt l D cI base st Z x0 x1 x2 x5 x6 x7 hn (q - 1) (by omega) _ rfl) (cwV 1 hts gX0_shelfToSpread_X0_markAt rfl rfl rfl (by decide +kernel) ⟨(Nat.le_of_ble_eq_true rfl), (Nat.le_of_ble_eq_true rfl)⟩) hCP (CP_rc hCP) rfl rfl hl.1 (Nat.le_of_ble_eq_true rfl) dX0_shelfToSpread_4 ⟨Nat.zero_le _, Nat.zero_le _⟩ ?_
  refine pv_iconst hx hb dX0_shelfToSpread_7 ?_
  refine va_mmax hx hb (hml.trans hl.1.symm) hown (hts (.methodLink RX0 151 Lib.Math.max.name) (by decide +kernel)) (hts (.static Lib.Math.max.name) (by decide +kernel)) (hts (.initialized "java/lang/Math") (by decide +kernel)) (hts (.code Lib.Math.max.name Lib.Math.max.code 2 (some .int)) (by decide +kernel)) (Nat.le_of_ble_eq_true rfl) (Nat.le_of_ble_eq_true rfl) (Nat.zero_le _) (Nat.zero_le _) dX0_shelfToSpread_8 ?_
  rw [show (if iI (ma G n (q - 1)) < iI (0) then iI (0) else iI (ma G n (q - 1))) = iI (a0) from by rw [ha0]; split <;> rename_i h; (rw [if_pos ((iI_lt (by omega) (by omega)).mp h)]); (rw [if_neg (fun z => h ((iI_lt (by omega) (by omega)).mpr z))])]
  refine lv_iload_n hx hb dX0_shelfToSpread_11 rfl (lv_at hl 2 rfl) ?_
  refine pv_ishr hx hb dX0_shelfToSpread_12 (by rw [ha0]; split <;> omega) (by omega) ?_
  exact pu_iret hx hb hr hlocks dX0_shelfToSpread_13 (by rw [hr9])
set_option maxHeartbeats 4000000 in
set_option maxRecDepth 100000 in
theorem c_levelToSpread (l : Launch) (D : va_G) (cI : ClassId) (base st : Nat) (Z : Nat → Nat) (x0 x1 x2 x5 x6 x7 : Nat) {n came MV : Int} {F G SP RF RC : Int → Int} (hn : 0 ≤ n ∧ n ≤ 60) (hG : ∀ k : Int, 0 ≤ k → k < n → 0 ≤ G k ∧ G k ≤ 255) (hs : SD G n) (q : Int) (hq : 0 ≤ q ∧ q ≤ n) (a0 : Int) (ha0 : a0 = if ma G n (q - 1) < 0 then 0 else ma G n (q - 1)) (har : 0 ≤ a0 ∧ a0 ≤ 255) (r : Int) (hr9 : LV G n a0 r) : pu_M l yX0_levelToSpread wsX0_levelToSpread ({ frames := 3, cells := 0, slots := 0, locals := 66 } : Room) [.ref x0, .int (iI (q))] (CP D cI base st Z x0 x1 x2 x5 x6 x7 n came MV F G SP RF RC) (r) := by
  refine pu_of (cc := cX0_levelToSpread) (maxL := 4) (ret := (some .int)) (own := RX0) (by decide) rfl rfl (Nat.le_of_ble_eq_true rfl) ?_
  intro p e s m below meth c ls B hCP hl
  obtain ⟨hx, hb, hml, hr, hts, hown, hlocks⟩ := B
  obtain ⟨⟨hK, hZL, ⟨hstb, xs, hXL, hAL⟩, hTW⟩, f, g, sp, rf, rc, hAf, hAg, hAsp, hArf, hArc, hP, hDb⟩ := id hCP
  have hl : lv_has ls 4 [(0, .ref x0), (1, .int (iI (q)))] := hl
  have q_LF := hts (.fieldLink RX0 16 "ShelfMarks" "LOADED_FROM" "[I") (by decide +kernel)
  refine va_gets (A := fun q => base ≤ q) hx hb hZL va_S.rf hown q_LF (fun _ h => h) dX0_levelToSpread_0 ?_
  refine pv_xlen (v := 9) hx hb hXL (by decide +kernel) dX0_levelToSpread_3 ?_
  refine pv_iconst hx hb dX0_levelToSpread_4 ?_
  refine pv_isub hx hb dX0_levelToSpread_5 ?_
  rw [show iI ((9) - (1)) = iI (8) from congrArg iI ((by decide))]
  refine lv_istore_n (lv' := [(2, .int (iI (8))), (0, .ref x0), (1, .int (iI (q)))]) hx hb dX0_levelToSpread_6 rfl hl (by decide) rfl (fun ls hl => ?_)
  refine pv_iconst hx hb dX0_levelToSpread_7 ?_
  refine lv_istore_n (lv' := [(3, .int (iI (1))), (2, .int (iI (8))), (0, .ref x0), (1, .int (iI (q)))]) hx hb dX0_levelToSpread_8 rfl hl (by decide) rfl (fun ls hl => ?_)
  have hloop9 : ∀ (fuel : Nat) (j : Int) (ls : Array Slot), (8 - j) < fuel → (1 ≤ j ∧ j ≤ 8) → (∀ i : Int, 1 ≤ i → i < j → LM i ≤ ldn G n i (a0 / 2 ^ i.toNat)) → lv_has ls 4 [(0, .ref x0), (1, .int (iI (q))), (2, .int (iI (8))), (3, .int (iI (j)))] → W p l e ({ frames := 3, cells := 0, slots := 0, locals := 66 } : Room) s m ([.ref x0, .int (iI (q))] : List Value).toArray below meth c s.heap [] 0 0 (MQ below (pu_Q (r)) ([.ref x0, .int (iI (q))] : List Value).toArray s 0 0 (fun _ => False)) (F0 m 9 ls []) := by
    intro fuel
    induction fuel with
    | zero => intro j ls hfu hj hld hl; exfalso; omega
    | succ fuel ih =>
      intro j ls hfu hj hld hl
      refine lv_iload_n hx hb dX0_levelToSpread_9 rfl (lv_at hl 3 rfl) ?_
      refine lv_iload_n hx hb dX0_levelToSpread_10 rfl (lv_at hl 2 rfl) ?_
      refine pv_icmp_ge (tgt := 34) hx hb dX0_levelToSpread_11 (by decide) (by omega) (fun c_11 => ?_) (fun c_11 => ?_)
      · -- 11t
        refine lv_iload_n hx hb dX0_levelToSpread_34 rfl (lv_at hl 3 rfl) ?_
        exact pu_iret hx hb hr hlocks dX0_levelToSpread_35 (by obtain ⟨h1, h2, h3⟩ := hr9; rcases (show r < 8 ∨ r = 8 by omega) with h | h; have := hld r h1.1 (by omega); have := h3 h; omega; omega)
      · -- 11f
        refine lv_aload_n hx hb dX0_levelToSpread_14 rfl (lv_at hl 0 rfl) ?_
        refine lv_iload_n hx hb dX0_levelToSpread_15 rfl (lv_at hl 3 rfl) ?_
        refine lv_aload_n hx hb dX0_levelToSpread_16 rfl (lv_at hl 0 rfl) ?_
        refine lv_iload_n hx hb dX0_levelToSpread_17 rfl (lv_at hl 1 rfl) ?_
        refine lv_iload_n hx hb dX0_levelToSpread_18 rfl (lv_at hl 3 rfl) ?_
        have hsb := sh_b (lv := j) har (by omega)
        refine pu_callV (v := a0 / 2 ^ j.toNat) (As := [.int (iI (q)), .int (iI (j))]) (rest := [.int (iI (j)), .ref x0]) CP_mv ⟨hx, hb, hml, hown, hts⟩ (c_shelfToSpread l D cI base st Z x0 x1 x2 x5 x6 x7 hn hG q hq j (by omega) a0 ha0 hq.2 _ rfl) (cwV 2 hts gX0_levelToSpread_X0_shelfToSpread rfl rfl rfl (by decide +kernel) ⟨(Nat.le_of_ble_eq_true rfl), (Nat.le_of_ble_eq_true rfl)⟩) hCP (CP_rc hCP) rfl rfl hl.1 (Nat.le_of_ble_eq_true rfl) dX0_levelToSpread_19 ⟨Nat.zero_le _, Nat.zero_le _⟩ ?_
        by_cases hv9 : LM j ≤ ldn G n j (a0 / 2 ^ j.toNat)
        · -- A
          refine pu_callV (v := 1) (As := [.int (iI (j)), .int (iI (a0 / 2 ^ j.toNat))]) (rest := []) CP_mv ⟨hx, hb, hml, hown, hts⟩ (c_isLoaded l D cI base st Z x0 x1 x2 x5 x6 x7 hn hG hs j _ (by omega) hsb.1 ⟨by omega, by omega, by omega, by omega⟩ 1 (by rw [if_pos hv9])) (cwV 2 hts gX0_levelToSpread_X0_isLoaded rfl rfl rfl (by decide +kernel) ⟨(Nat.le_of_ble_eq_true rfl), (Nat.le_of_ble_eq_true rfl)⟩) hCP (CP_rc hCP) rfl rfl hl.1 (Nat.le_of_ble_eq_true rfl) dX0_levelToSpread_22 ⟨Nat.zero_le _, Nat.zero_le _⟩ ?_
          refine pv_if_eq (tgt := 34) hx hb dX0_levelToSpread_25 (by decide) (by omega) (fun c_25 => ?_) (fun c_25 => ?_)
          · exact absurd c_25 (by omega)
          · -- 25f
            refine pv_iinc (lv' := [(3, .int (iI (j + 1))), (0, .ref x0), (1, .int (iI (q))), (2, .int (iI (8)))]) hx hb dX0_levelToSpread_28 hl (k := 3) rfl (by decide) rfl (fun ls hl => ?_)
            refine lv_goto (tgt := 9) hx hb dX0_levelToSpread_31 (by decide) ?_
            exact ih (j + 1) ls (by omega) (by omega) (fun k h0 h1 => by rcases (show k < j ∨ k = j by omega) with h | h; exact hld k h0 h; rw [h]; exact hv9) (lv_sub hl [1, 2, 3, 0] rfl)
        · -- B
          refine pu_callV (v := 0) (As := [.int (iI (j)), .int (iI (a0 / 2 ^ j.toNat))]) (rest := []) CP_mv ⟨hx, hb, hml, hown, hts⟩ (c_isLoaded l D cI base st Z x0 x1 x2 x5 x6 x7 hn hG hs j _ (by omega) hsb.1 ⟨by omega, by omega, by omega, by omega⟩ 0 (by rw [if_neg hv9])) (cwV 2 hts gX0_levelToSpread_X0_isLoaded rfl rfl rfl (by decide +kernel) ⟨(Nat.le_of_ble_eq_true rfl), (Nat.le_of_ble_eq_true rfl)⟩) hCP (CP_rc hCP) rfl rfl hl.1 (Nat.le_of_ble_eq_true rfl) dX0_levelToSpread_22 ⟨Nat.zero_le _, Nat.zero_le _⟩ ?_
          refine pv_if_eq (tgt := 34) hx hb dX0_levelToSpread_25 (by decide) (by omega) (fun c_25 => ?_) (fun c_25 => ?_)
          · -- 25t
            refine lv_iload_n hx hb dX0_levelToSpread_34 rfl (lv_at hl 3 rfl) ?_
            exact pu_iret hx hb hr hlocks dX0_levelToSpread_35 (by obtain ⟨h1, h2, h3⟩ := hr9; rcases (show r < j ∨ j < r ∨ j = r by omega) with h | h | h; have := hld r h1.1 h; have := h3 (by omega); omega; have := h2 j (by omega) h; omega; exact h)
          · exact absurd c_25 (by omega)
  exact hloop9 ((8 : Int).toNat + 1) (1) ls (by omega) (by omega) (fun k h0 h1 => absurd h1 (by omega)) (lv_sub hl [2, 3, 1, 0] rfl)
set_option maxHeartbeats 4000000 in
set_option maxRecDepth 100000 in
theorem c_spreadMark (l : Launch) (lv sh i t : Int) (hlv : 0 ≤ lv ∧ lv ≤ 8) (hsh : 0 ≤ sh) (hb9 : sh * 2 ^ lv.toNat ≤ 65536) (hi : 0 ≤ i ∧ i ≤ 100) (ht : 1 ≤ t ∧ t ≤ 100) (r : Int) (hr9 : r = nm (sh * 2 ^ lv.toNat) (2 ^ lv.toNat) t i) : pu_M l yX0_spreadMark wsX0_spreadMark ({ frames := 1, cells := 0, slots := 0, locals := 21 } : Room) [.int (iI (lv)), .int (iI (sh)), .int (iI (i)), .int (iI (t))] TP (r) := by
  refine pu_of (cc := cX0_spreadMark) (maxL := 5) (ret := (some .int)) (own := RX0) (by decide) rfl rfl (Nat.le_of_ble_eq_true rfl) ?_
  intro p e s m below meth c ls B hCP hl
  obtain ⟨hx, hb, hml, hr, hts, hown, hlocks⟩ := B
  have hl : lv_has ls 5 [(0, .int (iI (lv))), (1, .int (iI (sh))), (2, .int (iI (i))), (3, .int (iI (t)))] := hl
  refine lv_iload_n hx hb dX0_spreadMark_0 rfl (lv_at hl 3 rfl) ?_
  refine pv_if_le (tgt := 15) hx hb dX0_spreadMark_1 (by decide) (by omega) (fun c_1 => ?_) (fun c_1 => ?_)
  · exfalso; omega
  · -- 1f
    refine lv_iload_n hx hb dX0_spreadMark_4 rfl (lv_at hl 2 rfl) ?_
    refine lv_iload_n hx hb dX0_spreadMark_5 rfl (lv_at hl 0 rfl) ?_
    refine pu_callS (v := 2 ^ lv.toNat) (As := [.int (iI (lv))]) (rest := [.int (iI (i))]) TP_mv ⟨hx, hb, hml, hown, hts⟩ (c_shelfSize l lv hlv _ rfl) (va_cwS 1 hts gX0_spreadMark_X0_shelfSize rfl rfl rfl (by decide +kernel) ⟨(Nat.le_of_ble_eq_true rfl), (Nat.le_of_ble_eq_true rfl)⟩) trivial rfl rfl hl.1 (Nat.le_of_ble_eq_true rfl) dX0_spreadMark_6 ⟨Nat.zero_le _, Nat.zero_le _⟩ ?_
    refine pv_imul hx hb dX0_spreadMark_9 ?_
    refine lv_iload_n hx hb dX0_spreadMark_10 rfl (lv_at hl 3 rfl) ?_
    have hp2 := p2_rg hlv
    have hmul := mul_b hi (show 0 ≤ (2 : Int) ^ lv.toNat ∧ (2 : Int) ^ lv.toNat ≤ 256 by omega)
    refine pv_idiv hx hb dX0_spreadMark_11 (by omega) (by omega) ?_
    refine lv_goto (tgt := 16) hx hb dX0_spreadMark_12 (by decide) ?_
    refine lv_istore (lv' := [(4, .int (iI (((i) * (2 ^ lv.toNat)) / (t)))), (0, .int (iI (lv))), (1, .int (iI (sh))), (2, .int (iI (i))), (3, .int (iI (t)))]) hx hb dX0_spreadMark_16 hl (by decide) rfl (fun ls hl => ?_)
    refine lv_iload_n hx hb dX0_spreadMark_18 rfl (lv_at hl 1 rfl) ?_
    refine lv_iload_n hx hb dX0_spreadMark_19 rfl (lv_at hl 2 rfl) ?_
    refine pu_callS (v := sh * 2 ^ lv.toNat) (As := [.int (iI (lv)), .int (iI (sh))]) (rest := []) TP_mv ⟨hx, hb, hml, hown, hts⟩ (c_firstMark l lv sh (by omega) hsh (by omega) _ rfl) (va_cwS 2 hts gX0_spreadMark_X0_firstMark rfl rfl rfl (by decide +kernel) ⟨(Nat.le_of_ble_eq_true rfl), (Nat.le_of_ble_eq_true rfl)⟩) trivial rfl rfl hl.1 (Nat.le_of_ble_eq_true rfl) dX0_spreadMark_20 ⟨Nat.zero_le _, Nat.zero_le _⟩ ?_
    refine lv_iload hx hb dX0_spreadMark_23 (lv_at hl 0 rfl) ?_
    refine pv_iadd hx hb dX0_spreadMark_25 ?_
    exact pu_iret hx hb hr hlocks dX0_spreadMark_26 (by rw [hr9]; rfl)
set_option maxHeartbeats 4000000 in
set_option maxRecDepth 100000 in
theorem c_hasFreeMark (l : Launch) (D : va_G) (cI : ClassId) (base st : Nat) (Z : Nat → Nat) (x0 x1 x2 x5 x6 x7 : Nat) {n came MV : Int} {F G SP RF RC : Int → Int} (hn : 0 ≤ n ∧ n ≤ 60) (hG : ∀ k : Int, 0 ≤ k → k < n → 0 ≤ G k ∧ G k ≤ 255) (q : Int) (hq : 0 ≤ q ∧ q ≤ n) (r : Int) (hr9 : r = if 2 ≤ ma G n q - ma G n (q - 1) then 1 else 0) : pu_M l yX0_hasFreeMark wsX0_hasFreeMark ({ frames := 2, cells := 0, slots := 0, locals := 42 } : Room) [.ref x0, .int (iI (q))] (CP D cI base st Z x0 x1 x2 x5 x6 x7 n came MV F G SP RF RC) (r) := by
  refine pu_of (cc := cX0_hasFreeMark) (maxL := 2) (ret := (some .boolean)) (own := RX0) (by decide) rfl rfl (Nat.le_of_ble_eq_true rfl) ?_
  intro p e s m below meth c ls B hCP hl
  obtain ⟨hx, hb, hml, hr, hts, hown, hlocks⟩ := B
  obtain ⟨⟨hK, hZL, ⟨hstb, xs, hXL, hAL⟩, hTW⟩, f, g, sp, rf, rc, hAf, hAg, hAsp, hArf, hArc, hP, hDb⟩ := id hCP
  have hl : lv_has ls 2 [(0, .ref x0), (1, .int (iI (q)))] := hl
  have hz9 : r = 0 ∨ r = 1 := by rw [hr9]; split <;> omega
  refine lv_aload_n hx hb dX0_hasFreeMark_0 rfl (lv_at hl 0 rfl) ?_
  refine lv_iload_n hx hb dX0_hasFreeMark_1 rfl (lv_at hl 1 rfl) ?_
  have hm1 := ma_rg hG q
  have hm2 := ma_rg hG (q - 1)
  refine pu_callV (v := ma G n q) (As := [.int (iI (q))]) (rest := []) CP_mv ⟨hx, hb, hml, hown, hts⟩ (c_markAt l D cI base st Z x0 x1 x2 x5 x6 x7 hn q (by omega) _ rfl) (cwV 1 hts gX0_hasFreeMark_X0_markAt rfl rfl rfl (by decide +kernel) ⟨(Nat.le_of_ble_eq_true rfl), (Nat.le_of_ble_eq_true rfl)⟩) hCP (CP_rc hCP) rfl rfl hl.1 (Nat.le_of_ble_eq_true rfl) dX0_hasFreeMark_2 ⟨Nat.zero_le _, Nat.zero_le _⟩ ?_
  refine lv_aload_n hx hb dX0_hasFreeMark_5 rfl (lv_at hl 0 rfl) ?_
  refine lv_iload_n hx hb dX0_hasFreeMark_6 rfl (lv_at hl 1 rfl) ?_
  refine pv_iconst hx hb dX0_hasFreeMark_7 ?_
  refine pv_isub hx hb dX0_hasFreeMark_8 ?_
  refine pu_callV (v := ma G n (q - 1)) (As := [.int (iI ((q) - (1)))]) (rest := [.int (iI (ma G n q))]) CP_mv ⟨hx, hb, hml, hown, hts⟩ (c_markAt l D cI base st Z x0 x1 x2 x5 x6 x7 hn (q - 1) (by omega) _ rfl) (cwV 1 hts gX0_hasFreeMark_X0_markAt rfl rfl rfl (by decide +kernel) ⟨(Nat.le_of_ble_eq_true rfl), (Nat.le_of_ble_eq_true rfl)⟩) hCP (CP_rc hCP) rfl rfl hl.1 (Nat.le_of_ble_eq_true rfl) dX0_hasFreeMark_9 ⟨Nat.zero_le _, Nat.zero_le _⟩ ?_
  refine pv_isub hx hb dX0_hasFreeMark_12 ?_
  refine pv_iconst hx hb dX0_hasFreeMark_13 ?_
  refine pv_icmp_lt (tgt := 21) hx hb dX0_hasFreeMark_14 (by decide) (by omega) (fun c_14 => ?_) (fun c_14 => ?_)
  · -- 14t
    refine pv_iconst hx hb dX0_hasFreeMark_21 ?_
    exact pu_zret hx hb hr hlocks dX0_hasFreeMark_22 (by rw [hr9, if_neg (by omega)]) hz9
  · -- 14f
    refine pv_iconst hx hb dX0_hasFreeMark_17 ?_
    refine lv_goto (tgt := 22) hx hb dX0_hasFreeMark_18 (by decide) ?_
    exact pu_zret hx hb hr hlocks dX0_hasFreeMark_22 (by rw [hr9, if_pos (by omega)]) hz9
set_option maxHeartbeats 4000000 in
set_option maxRecDepth 100000 in
theorem c_moves_free (l : Launch) (D : va_G) (cI : ClassId) (base st : Nat) (Z : Nat → Nat) (x0 x1 x2 x5 x6 x7 : Nat) {n came MV : Int} {F G SP RF RC : Int → Int} (hn : 0 ≤ n ∧ n ≤ 60) (hG : ∀ k : Int, 0 ≤ k → k < n → 0 ≤ G k ∧ G k ≤ 255) (q : Int) (hq : 0 ≤ q ∧ q ≤ n) (hfree : 2 ≤ ma G n q - ma G n (q - 1)) : pu_M l yX0_movesByPuttingIn wsX0_movesByPuttingIn ({ frames := 3, cells := 0, slots := 0, locals := 63 } : Room) [.ref x0, .int (iI (q))] (CP D cI base st Z x0 x1 x2 x5 x6 x7 n came MV F G SP RF RC) (0) := by
  refine pu_of (cc := cX0_movesByPuttingIn) (maxL := 9) (ret := (some .int)) (own := RX0) (by decide) rfl rfl (Nat.le_of_ble_eq_true rfl) ?_
  intro p e s m below meth c ls B hCP hl
  obtain ⟨hx, hb, hml, hr, hts, hown, hlocks⟩ := B
  obtain ⟨⟨hK, hZL, ⟨hstb, xs, hXL, hAL⟩, hTW⟩, f, g, sp, rf, rc, hAf, hAg, hAsp, hArf, hArc, hP, hDb⟩ := id hCP
  have hl : lv_has ls 9 [(0, .ref x0), (1, .int (iI (q)))] := hl
  refine lv_aload_n hx hb dX0_movesByPuttingIn_0 rfl (lv_at hl 0 rfl) ?_
  refine lv_iload_n hx hb dX0_movesByPuttingIn_1 rfl (lv_at hl 1 rfl) ?_
  refine pu_callV (v := 1) (As := [.int (iI (q))]) (rest := []) CP_mv ⟨hx, hb, hml, hown, hts⟩ (c_hasFreeMark l D cI base st Z x0 x1 x2 x5 x6 x7 hn hG q hq 1 (by rw [if_pos hfree])) (cwV 1 hts gX0_movesByPuttingIn_X0_hasFreeMark rfl rfl rfl (by decide +kernel) ⟨(Nat.le_of_ble_eq_true rfl), (Nat.le_of_ble_eq_true rfl)⟩) hCP (CP_rc hCP) rfl rfl hl.1 (Nat.le_of_ble_eq_true rfl) dX0_movesByPuttingIn_2 ⟨Nat.zero_le _, Nat.zero_le _⟩ ?_
  refine pv_if_eq (tgt := 10) hx hb dX0_movesByPuttingIn_5 (by decide) (by omega) (fun c_5 => ?_) (fun c_5 => ?_)
  · exact absurd c_5 (by omega)
  · -- 5f
    refine pv_iconst hx hb dX0_movesByPuttingIn_8 ?_
    exact pu_iret hx hb hr hlocks dX0_movesByPuttingIn_9 (by rfl)
set_option maxHeartbeats 4000000 in
set_option maxRecDepth 100000 in
theorem c_moves_full (l : Launch) (D : va_G) (cI : ClassId) (base st : Nat) (Z : Nat → Nat) (x0 x1 x2 x5 x6 x7 : Nat) {n came MV : Int} {F G SP RF RC : Int → Int} (hn : 0 ≤ n ∧ n ≤ 60) (hG : ∀ k : Int, 0 ≤ k → k < n → 0 ≤ G k ∧ G k ≤ 255) (hs : SD G n) (q : Int) (hq : 0 ≤ q ∧ q ≤ n) (hfull : ma G n q - ma G n (q - 1) < 2) (a0 : Int) (ha0 : a0 = if ma G n (q - 1) < 0 then 0 else ma G n (q - 1)) (har : 0 ≤ a0 ∧ a0 ≤ 255) (lv : Int) (hlv : LV G n a0 lv) (r : Int) (hr9 : r = mvn G q (a0 / 2 ^ lv.toNat * 2 ^ lv.toNat) (2 ^ lv.toNat) (mb G n (a0 / 2 ^ lv.toNat * 2 ^ lv.toNat)) (ldn G n lv (a0 / 2 ^ lv.toNat) + 1) (ldn G n lv (a0 / 2 ^ lv.toNat)).toNat) : pu_M l yX0_movesByPuttingIn wsX0_movesByPuttingIn ({ frames := 4, cells := 0, slots := 0, locals := 89 } : Room) [.ref x0, .int (iI (q))] (CP D cI base st Z x0 x1 x2 x5 x6 x7 n came MV F G SP RF RC) (r) := by
  refine pu_of (cc := cX0_movesByPuttingIn) (maxL := 9) (ret := (some .int)) (own := RX0) (by decide) rfl rfl (Nat.le_of_ble_eq_true rfl) ?_
  intro p e s m below meth c ls B hCP hl
  obtain ⟨hx, hb, hml, hr, hts, hown, hlocks⟩ := B
  obtain ⟨⟨hK, hZL, ⟨hstb, xs, hXL, hAL⟩, hTW⟩, f, g, sp, rf, rc, hAf, hAg, hAsp, hArf, hArc, hP, hDb⟩ := id hCP
  have hl : lv_has ls 9 [(0, .ref x0), (1, .int (iI (q)))] := hl
  refine lv_aload_n hx hb dX0_movesByPuttingIn_0 rfl (lv_at hl 0 rfl) ?_
  refine lv_iload_n hx hb dX0_movesByPuttingIn_1 rfl (lv_at hl 1 rfl) ?_
  refine pu_callV (v := 0) (As := [.int (iI (q))]) (rest := []) CP_mv ⟨hx, hb, hml, hown, hts⟩ (c_hasFreeMark l D cI base st Z x0 x1 x2 x5 x6 x7 hn hG q hq 0 (by rw [if_neg (by omega)])) (cwV 1 hts gX0_movesByPuttingIn_X0_hasFreeMark rfl rfl rfl (by decide +kernel) ⟨(Nat.le_of_ble_eq_true rfl), (Nat.le_of_ble_eq_true rfl)⟩) hCP (CP_rc hCP) rfl rfl hl.1 (Nat.le_of_ble_eq_true rfl) dX0_movesByPuttingIn_2 ⟨Nat.zero_le _, Nat.zero_le _⟩ ?_
  refine pv_if_eq (tgt := 10) hx hb dX0_movesByPuttingIn_5 (by decide) (by omega) (fun c_5 => ?_) (fun c_5 => ?_)
  · -- 5t
    refine lv_aload_n hx hb dX0_movesByPuttingIn_10 rfl (lv_at hl 0 rfl) ?_
    refine lv_iload_n hx hb dX0_movesByPuttingIn_11 rfl (lv_at hl 1 rfl) ?_
    have hlv1 := hlv.1
    have hsb := sh_b (lv := lv) har (by omega)
    have hp2 := p2_rg (lv := lv) (by omega)
    refine pu_callV (v := lv) (As := [.int (iI (q))]) (rest := []) CP_mv ⟨hx, hb, hml, hown, hts⟩ (c_levelToSpread l D cI base st Z x0 x1 x2 x5 x6 x7 hn hG hs q hq a0 ha0 har lv hlv) (cwV 1 hts gX0_movesByPuttingIn_X0_levelToSpread rfl rfl rfl (by decide +kernel) ⟨(Nat.le_of_ble_eq_true rfl), (Nat.le_of_ble_eq_true rfl)⟩) hCP (CP_rc hCP) rfl rfl hl.1 (Nat.le_of_ble_eq_true rfl) dX0_movesByPuttingIn_12 ⟨Nat.zero_le _, Nat.zero_le _⟩ ?_
    refine lv_istore_n (lv' := [(2, .int (iI (lv))), (0, .ref x0), (1, .int (iI (q)))]) hx hb dX0_movesByPuttingIn_15 rfl hl (by decide) rfl (fun ls hl => ?_)
    refine lv_aload_n hx hb dX0_movesByPuttingIn_16 rfl (lv_at hl 1 rfl) ?_
    refine lv_iload_n hx hb dX0_movesByPuttingIn_17 rfl (lv_at hl 2 rfl) ?_
    refine lv_iload_n hx hb dX0_movesByPuttingIn_18 rfl (lv_at hl 0 rfl) ?_
    refine pu_callV (v := a0 / 2 ^ lv.toNat) (As := [.int (iI (q)), .int (iI (lv))]) (rest := []) CP_mv ⟨hx, hb, hml, hown, hts⟩ (c_shelfToSpread l D cI base st Z x0 x1 x2 x5 x6 x7 hn hG q hq lv (by omega) a0 ha0 hq.2 _ rfl) (cwV 2 hts gX0_movesByPuttingIn_X0_shelfToSpread rfl rfl rfl (by decide +kernel) ⟨(Nat.le_of_ble_eq_true rfl), (Nat.le_of_ble_eq_true rfl)⟩) hCP (CP_rc hCP) rfl rfl hl.1 (Nat.le_of_ble_eq_true rfl) dX0_movesByPuttingIn_19 ⟨Nat.zero_le _, Nat.zero_le _⟩ ?_
    obtain ⟨sh, hsh9⟩ : ∃ z, z = a0 / 2 ^ lv.toNat := ⟨_, rfl⟩
    rw [← hsh9] at hsb hr9
    rw [show iI (a0 / 2 ^ lv.toNat) = iI (sh) from congrArg iI (hsh9.symm)]
    refine lv_istore_n (lv' := [(3, .int (iI (sh))), (2, .int (iI (lv))), (0, .ref x0), (1, .int (iI (q)))]) hx hb dX0_movesByPuttingIn_22 rfl hl (by decide) rfl (fun ls hl => ?_)
    refine lv_aload_n hx hb dX0_movesByPuttingIn_23 rfl (lv_at hl 2 rfl) ?_
    refine lv_iload_n hx hb dX0_movesByPuttingIn_24 rfl (lv_at hl 1 rfl) ?_
    refine lv_iload_n hx hb dX0_movesByPuttingIn_25 rfl (lv_at hl 0 rfl) ?_
    refine pu_callS (v := sh * 2 ^ lv.toNat) (As := [.int (iI (lv)), .int (iI (sh))]) (rest := [.ref x0]) TP_mv ⟨hx, hb, hml, hown, hts⟩ (c_firstMark l lv sh (by omega) (by omega) (by omega) _ rfl) (va_cwS 2 hts gX0_movesByPuttingIn_X0_firstMark rfl rfl rfl (by decide +kernel) ⟨(Nat.le_of_ble_eq_true rfl), (Nat.le_of_ble_eq_true rfl)⟩) trivial rfl rfl hl.1 (Nat.le_of_ble_eq_true rfl) dX0_movesByPuttingIn_26 ⟨Nat.zero_le _, Nat.zero_le _⟩ ?_
    refine pu_callV (v := mb G n (sh * 2 ^ lv.toNat)) (As := [.int (iI (sh * 2 ^ lv.toNat))]) (rest := []) CP_mv ⟨hx, hb, hml, hown, hts⟩ (c_marksBelow l D cI base st Z x0 x1 x2 x5 x6 x7 hn hG _ (by omega) _ (mb_FI _ hn.1 hs)) (cwV 1 hts gX0_movesByPuttingIn_X0_marksBelow rfl rfl rfl (by decide +kernel) ⟨(Nat.le_of_ble_eq_true rfl), (Nat.le_of_ble_eq_true rfl)⟩) hCP (CP_rc hCP) rfl rfl hl.1 (Nat.le_of_ble_eq_true rfl) dX0_movesByPuttingIn_29 ⟨Nat.zero_le _, Nat.zero_le _⟩ ?_
    obtain ⟨bg, hbg⟩ : ∃ z, z = mb G n (sh * 2 ^ lv.toNat) := ⟨_, rfl⟩
    rw [← hbg] at hr9
    have hbgr := mb_rg (G := G) (m := sh * 2 ^ lv.toNat) hn.1
    rw [← hbg] at hbgr
    have hend := ldn_end (G := G) (lv := lv) (sh := sh) hn
    rw [← hbg] at hend
    rw [show iI (mb G n (sh * 2 ^ lv.toNat)) = iI (bg) from congrArg iI (hbg.symm)]
    refine lv_istore (lv' := [(4, .int (iI (bg))), (3, .int (iI (sh))), (2, .int (iI (lv))), (0, .ref x0), (1, .int (iI (q)))]) hx hb dX0_movesByPuttingIn_32 hl (by decide) rfl (fun ls hl => ?_)
    refine lv_aload_n hx hb dX0_movesByPuttingIn_34 rfl (lv_at hl 3 rfl) ?_
    refine lv_iload_n hx hb dX0_movesByPuttingIn_35 rfl (lv_at hl 2 rfl) ?_
    refine lv_iload_n hx hb dX0_movesByPuttingIn_36 rfl (lv_at hl 1 rfl) ?_
    refine pu_callV (v := ldn G n lv sh) (As := [.int (iI (lv)), .int (iI (sh))]) (rest := []) CP_mv ⟨hx, hb, hml, hown, hts⟩ (c_foldersOn l D cI base st Z x0 x1 x2 x5 x6 x7 hn hG hs lv sh (by omega) (by omega) ⟨by omega, by omega, by omega, by omega⟩ _ rfl) (cwV 2 hts gX0_movesByPuttingIn_X0_foldersOn rfl rfl rfl (by decide +kernel) ⟨(Nat.le_of_ble_eq_true rfl), (Nat.le_of_ble_eq_true rfl)⟩) hCP (CP_rc hCP) rfl rfl hl.1 (Nat.le_of_ble_eq_true rfl) dX0_movesByPuttingIn_37 ⟨Nat.zero_le _, Nat.zero_le _⟩ ?_
    have hldr := ldn_rg (lv := lv) (sh := sh) hn hs (by omega)
    obtain ⟨ct, hct⟩ : ∃ z, z = ldn G n lv sh := ⟨_, rfl⟩
    rw [← hct] at hr9 hldr hend
    rw [show iI (ldn G n lv sh) = iI (ct) from congrArg iI (hct.symm)]
    refine lv_istore (lv' := [(5, .int (iI (ct))), (4, .int (iI (bg))), (3, .int (iI (sh))), (2, .int (iI (lv))), (0, .ref x0), (1, .int (iI (q)))]) hx hb dX0_movesByPuttingIn_40 hl (by decide) rfl (fun ls hl => ?_)
    refine pv_iconst hx hb dX0_movesByPuttingIn_42 ?_
    refine lv_istore (lv' := [(6, .int (iI (0))), (5, .int (iI (ct))), (4, .int (iI (bg))), (3, .int (iI (sh))), (2, .int (iI (lv))), (0, .ref x0), (1, .int (iI (q)))]) hx hb dX0_movesByPuttingIn_43 hl (by decide) rfl (fun ls hl => ?_)
    refine lv_iload hx hb dX0_movesByPuttingIn_45 (lv_at hl 2 rfl) ?_
    refine lv_istore (lv' := [(7, .int (iI (bg))), (6, .int (iI (0))), (5, .int (iI (ct))), (4, .int (iI (bg))), (3, .int (iI (sh))), (2, .int (iI (lv))), (0, .ref x0), (1, .int (iI (q)))]) hx hb dX0_movesByPuttingIn_47 hl (by decide) rfl (fun ls hl => ?_)
    have hloop49 : ∀ (fuel : Nat) (fd : Int) (k : Int) (ls : Array Slot), (bg + ct - k) < fuel → (bg ≤ k ∧ k ≤ bg + ct) → (fd = mvn G q (sh * 2 ^ lv.toNat) (2 ^ lv.toNat) bg (ct + 1) (k - bg).toNat) → lv_has ls 9 [(0, .ref x0), (1, .int (iI (q))), (2, .int (iI (lv))), (3, .int (iI (sh))), (4, .int (iI (bg))), (5, .int (iI (ct))), (6, .int (iI (fd))), (7, .int (iI (k)))] → W p l e ({ frames := 4, cells := 0, slots := 0, locals := 89 } : Room) s m ([.ref x0, .int (iI (q))] : List Value).toArray below meth c s.heap [] 0 0 (MQ below (pu_Q (r)) ([.ref x0, .int (iI (q))] : List Value).toArray s 0 0 (fun _ => False)) (F0 m 49 ls []) := by
      intro fuel
      induction fuel with
      | zero => intro fd k ls hfu hk hfd hl; exfalso; omega
      | succ fuel ih =>
        intro fd k ls hfu hk hfd hl
        refine lv_iload hx hb dX0_movesByPuttingIn_49 (lv_at hl 7 rfl) ?_
        refine lv_iload hx hb dX0_movesByPuttingIn_51 (lv_at hl 4 rfl) ?_
        refine lv_iload hx hb dX0_movesByPuttingIn_53 (lv_at hl 5 rfl) ?_
        refine pv_iadd hx hb dX0_movesByPuttingIn_55 ?_
        refine pv_icmp_ge (tgt := 108) hx hb dX0_movesByPuttingIn_56 (by decide) (by omega) (fun c_56 => ?_) (fun c_56 => ?_)
        · -- 56t
          refine lv_iload hx hb dX0_movesByPuttingIn_108 (lv_at hl 6 rfl) ?_
          exact pu_iret hx hb hr hlocks dX0_movesByPuttingIn_110 (by rw [hr9, hfd, show (k - bg).toNat = ct.toNat by omega])
        · -- 56f
          refine lv_iload hx hb dX0_movesByPuttingIn_59 (lv_at hl 7 rfl) ?_
          refine lv_iload_n hx hb dX0_movesByPuttingIn_61 rfl (lv_at hl 1 rfl) ?_
          refine pv_icmp_ge (tgt := 70) hx hb dX0_movesByPuttingIn_62 (by decide) (by omega) (fun c_62 => ?_) (fun c_62 => ?_)
          · -- 62t
            refine lv_iload hx hb dX0_movesByPuttingIn_70 (lv_at hl 7 rfl) ?_
            refine pv_iconst hx hb dX0_movesByPuttingIn_72 ?_
            refine pv_iadd hx hb dX0_movesByPuttingIn_73 ?_
            refine lv_iload hx hb dX0_movesByPuttingIn_74 (lv_at hl 4 rfl) ?_
            refine pv_isub hx hb dX0_movesByPuttingIn_76 ?_
            rw [show iI (((k) + (1)) - (bg)) = iI (k + 1 - bg) from congrArg iI (rfl)]
            refine lv_istore (lv' := [(8, .int (iI (k + 1 - bg))), (0, .ref x0), (1, .int (iI (q))), (2, .int (iI (lv))), (3, .int (iI (sh))), (4, .int (iI (bg))), (5, .int (iI (ct))), (6, .int (iI (fd))), (7, .int (iI (k)))]) hx hb dX0_movesByPuttingIn_77 hl (by decide) rfl (fun ls hl => ?_)
            have hnp : np q bg (k - bg) = k + 1 - bg := by unfold np; rw [if_neg (by omega)]; omega
            refine lv_aload_n hx hb dX0_movesByPuttingIn_79 rfl (lv_at hl 1 rfl) ?_
            refine lv_iload hx hb dX0_movesByPuttingIn_80 (lv_at hl 8 rfl) ?_
            have hgk := hG k (by omega) (by omega)
            refine pu_callV (v := G k) (As := [.int (iI (k))]) (rest := []) CP_mv ⟨hx, hb, hml, hown, hts⟩ (c_markAt l D cI base st Z x0 x1 x2 x5 x6 x7 hn k (by omega) _ (by unfold ma; rw [if_neg (by omega), if_pos (by omega)])) (cwV 1 hts gX0_movesByPuttingIn_X0_markAt rfl rfl rfl (by decide +kernel) ⟨(Nat.le_of_ble_eq_true rfl), (Nat.le_of_ble_eq_true rfl)⟩) hCP (CP_rc hCP) rfl rfl hl.1 (Nat.le_of_ble_eq_true rfl) dX0_movesByPuttingIn_82 ⟨Nat.zero_le _, Nat.zero_le _⟩ ?_
            refine lv_iload_n hx hb dX0_movesByPuttingIn_85 rfl (lv_at hl 3 rfl) ?_
            refine lv_iload_n hx hb dX0_movesByPuttingIn_86 rfl (lv_at hl 4 rfl) ?_
            refine lv_iload hx hb dX0_movesByPuttingIn_87 (lv_at hl 0 rfl) ?_
            refine lv_iload hx hb dX0_movesByPuttingIn_89 (lv_at hl 6 rfl) ?_
            refine pv_iconst hx hb dX0_movesByPuttingIn_91 ?_
            refine pv_iadd hx hb dX0_movesByPuttingIn_92 ?_
            refine pu_callS (v := nm (sh * 2 ^ lv.toNat) (2 ^ lv.toNat) (ct + 1) (k + 1 - bg)) (As := [.int (iI (lv)), .int (iI (sh)), .int (iI (k + 1 - bg)), .int (iI ((ct) + (1)))]) (rest := [.int (iI (G k))]) TP_mv ⟨hx, hb, hml, hown, hts⟩ (c_spreadMark l lv sh (k + 1 - bg) (ct + 1) (by omega) (by omega) (by omega) (by omega) (by omega) _ rfl) (va_cwS 4 hts gX0_movesByPuttingIn_X0_spreadMark rfl rfl rfl (by decide +kernel) ⟨(Nat.le_of_ble_eq_true rfl), (Nat.le_of_ble_eq_true rfl)⟩) trivial rfl rfl hl.1 (Nat.le_of_ble_eq_true rfl) dX0_movesByPuttingIn_93 ⟨Nat.zero_le _, Nat.zero_le _⟩ ?_
            have hnmr := nm_rg (lo := sh * 2 ^ lv.toNat) (w := 2 ^ lv.toNat) (t := ct + 1) (i := k + 1 - bg) (by omega) (by omega) (by omega) (by omega)
            refine pv_icmp_eq (tgt := 102) hx hb dX0_movesByPuttingIn_96 (by decide) (by omega) (fun c_96 => ?_) (fun c_96 => ?_)
            · -- 96t
              refine pv_iinc (lv' := [(7, .int (iI (k + 1))), (8, .int (iI (k + 1 - bg))), (0, .ref x0), (1, .int (iI (q))), (2, .int (iI (lv))), (3, .int (iI (sh))), (4, .int (iI (bg))), (5, .int (iI (ct))), (6, .int (iI (fd)))]) hx hb dX0_movesByPuttingIn_102 hl (k := 8) rfl (by decide) rfl (fun ls hl => ?_)
              refine lv_goto (tgt := 49) hx hb dX0_movesByPuttingIn_105 (by decide) ?_
              exact ih (fd) (k + 1) ls (by omega) (by omega) (by rw [show k + 1 - bg = (k - bg) + 1 by omega, hfd]; exact (cn_f _ (by omega) (decide_eq_false (by rw [show bg + (k - bg) = k by omega, hnp]; exact fun z => z c_96))).symm) (lv_sub hl [2, 3, 4, 5, 6, 7, 8, 0] rfl)
            · -- 96f
              refine pv_iinc (lv' := [(6, .int (iI (fd + 1))), (8, .int (iI (k + 1 - bg))), (0, .ref x0), (1, .int (iI (q))), (2, .int (iI (lv))), (3, .int (iI (sh))), (4, .int (iI (bg))), (5, .int (iI (ct))), (7, .int (iI (k)))]) hx hb dX0_movesByPuttingIn_99 hl (k := 7) rfl (by decide) rfl (fun ls hl => ?_)
              refine pv_iinc (lv' := [(7, .int (iI (k + 1))), (6, .int (iI (fd + 1))), (8, .int (iI (k + 1 - bg))), (0, .ref x0), (1, .int (iI (q))), (2, .int (iI (lv))), (3, .int (iI (sh))), (4, .int (iI (bg))), (5, .int (iI (ct)))]) hx hb dX0_movesByPuttingIn_102 hl (k := 8) rfl (by decide) rfl (fun ls hl => ?_)
              refine lv_goto (tgt := 49) hx hb dX0_movesByPuttingIn_105 (by decide) ?_
              exact ih (fd + 1) (k + 1) ls (by omega) (by omega) (by rw [show k + 1 - bg = (k - bg) + 1 by omega, hfd]; exact (cn_t _ (by omega) (decide_eq_true (by rw [show bg + (k - bg) = k by omega, hnp]; exact c_96))).symm) (lv_sub hl [3, 4, 5, 6, 7, 8, 1, 0] rfl)
          · -- 62f
            refine lv_iload hx hb dX0_movesByPuttingIn_65 (lv_at hl 7 rfl) ?_
            refine lv_goto (tgt := 74) hx hb dX0_movesByPuttingIn_67 (by decide) ?_
            refine lv_iload hx hb dX0_movesByPuttingIn_74 (lv_at hl 4 rfl) ?_
            refine pv_isub hx hb dX0_movesByPuttingIn_76 ?_
            rw [show iI ((k) - (bg)) = iI (k - bg) from congrArg iI (rfl)]
            refine lv_istore (lv' := [(8, .int (iI (k - bg))), (0, .ref x0), (1, .int (iI (q))), (2, .int (iI (lv))), (3, .int (iI (sh))), (4, .int (iI (bg))), (5, .int (iI (ct))), (6, .int (iI (fd))), (7, .int (iI (k)))]) hx hb dX0_movesByPuttingIn_77 hl (by decide) rfl (fun ls hl => ?_)
            have hnp : np q bg (k - bg) = k - bg := by unfold np; rw [if_pos (by omega)]
            refine lv_aload_n hx hb dX0_movesByPuttingIn_79 rfl (lv_at hl 1 rfl) ?_
            refine lv_iload hx hb dX0_movesByPuttingIn_80 (lv_at hl 8 rfl) ?_
            have hgk := hG k (by omega) (by omega)
            refine pu_callV (v := G k) (As := [.int (iI (k))]) (rest := []) CP_mv ⟨hx, hb, hml, hown, hts⟩ (c_markAt l D cI base st Z x0 x1 x2 x5 x6 x7 hn k (by omega) _ (by unfold ma; rw [if_neg (by omega), if_pos (by omega)])) (cwV 1 hts gX0_movesByPuttingIn_X0_markAt rfl rfl rfl (by decide +kernel) ⟨(Nat.le_of_ble_eq_true rfl), (Nat.le_of_ble_eq_true rfl)⟩) hCP (CP_rc hCP) rfl rfl hl.1 (Nat.le_of_ble_eq_true rfl) dX0_movesByPuttingIn_82 ⟨Nat.zero_le _, Nat.zero_le _⟩ ?_
            refine lv_iload_n hx hb dX0_movesByPuttingIn_85 rfl (lv_at hl 3 rfl) ?_
            refine lv_iload_n hx hb dX0_movesByPuttingIn_86 rfl (lv_at hl 4 rfl) ?_
            refine lv_iload hx hb dX0_movesByPuttingIn_87 (lv_at hl 0 rfl) ?_
            refine lv_iload hx hb dX0_movesByPuttingIn_89 (lv_at hl 6 rfl) ?_
            refine pv_iconst hx hb dX0_movesByPuttingIn_91 ?_
            refine pv_iadd hx hb dX0_movesByPuttingIn_92 ?_
            refine pu_callS (v := nm (sh * 2 ^ lv.toNat) (2 ^ lv.toNat) (ct + 1) (k - bg)) (As := [.int (iI (lv)), .int (iI (sh)), .int (iI (k - bg)), .int (iI ((ct) + (1)))]) (rest := [.int (iI (G k))]) TP_mv ⟨hx, hb, hml, hown, hts⟩ (c_spreadMark l lv sh (k - bg) (ct + 1) (by omega) (by omega) (by omega) (by omega) (by omega) _ rfl) (va_cwS 4 hts gX0_movesByPuttingIn_X0_spreadMark rfl rfl rfl (by decide +kernel) ⟨(Nat.le_of_ble_eq_true rfl), (Nat.le_of_ble_eq_true rfl)⟩) trivial rfl rfl hl.1 (Nat.le_of_ble_eq_true rfl) dX0_movesByPuttingIn_93 ⟨Nat.zero_le _, Nat.zero_le _⟩ ?_
            have hnmr := nm_rg (lo := sh * 2 ^ lv.toNat) (w := 2 ^ lv.toNat) (t := ct + 1) (i := k - bg) (by omega) (by omega) (by omega) (by omega)
            refine pv_icmp_eq (tgt := 102) hx hb dX0_movesByPuttingIn_96 (by decide) (by omega) (fun c_96 => ?_) (fun c_96 => ?_)
            · -- 96t
              refine pv_iinc (lv' := [(7, .int (iI (k + 1))), (8, .int (iI (k - bg))), (0, .ref x0), (1, .int (iI (q))), (2, .int (iI (lv))), (3, .int (iI (sh))), (4, .int (iI (bg))), (5, .int (iI (ct))), (6, .int (iI (fd)))]) hx hb dX0_movesByPuttingIn_102 hl (k := 8) rfl (by decide) rfl (fun ls hl => ?_)
              refine lv_goto (tgt := 49) hx hb dX0_movesByPuttingIn_105 (by decide) ?_
              exact ih (fd) (k + 1) ls (by omega) (by omega) (by rw [show k + 1 - bg = (k - bg) + 1 by omega, hfd]; exact (cn_f _ (by omega) (decide_eq_false (by rw [show bg + (k - bg) = k by omega, hnp]; exact fun z => z c_96))).symm) (lv_sub hl [2, 3, 4, 5, 6, 7, 8, 0] rfl)
            · -- 96f
              refine pv_iinc (lv' := [(6, .int (iI (fd + 1))), (8, .int (iI (k - bg))), (0, .ref x0), (1, .int (iI (q))), (2, .int (iI (lv))), (3, .int (iI (sh))), (4, .int (iI (bg))), (5, .int (iI (ct))), (7, .int (iI (k)))]) hx hb dX0_movesByPuttingIn_99 hl (k := 7) rfl (by decide) rfl (fun ls hl => ?_)
              refine pv_iinc (lv' := [(7, .int (iI (k + 1))), (6, .int (iI (fd + 1))), (8, .int (iI (k - bg))), (0, .ref x0), (1, .int (iI (q))), (2, .int (iI (lv))), (3, .int (iI (sh))), (4, .int (iI (bg))), (5, .int (iI (ct)))]) hx hb dX0_movesByPuttingIn_102 hl (k := 8) rfl (by decide) rfl (fun ls hl => ?_)
              refine lv_goto (tgt := 49) hx hb dX0_movesByPuttingIn_105 (by decide) ?_
              exact ih (fd + 1) (k + 1) ls (by omega) (by omega) (by rw [show k + 1 - bg = (k - bg) + 1 by omega, hfd]; exact (cn_t _ (by omega) (decide_eq_true (by rw [show bg + (k - bg) = k by omega, hnp]; exact c_96))).symm) (lv_sub hl [3, 4, 5, 6, 7, 8, 1, 0] rfl)
    exact hloop49 ((ct : Int).toNat + 1) (0) (bg) ls (by omega) (by omega) (by rw [show (bg - bg).toNat = 0 by omega]; rfl) (lv_sub hl [6, 7, 5, 4, 3, 2, 1, 0] rfl)
  · exact absurd c_5 (by omega)
set_option maxHeartbeats 4000000 in
set_option maxRecDepth 100000 in
theorem c_requireReader (l : Launch) (D : va_G) (cI : ClassId) (base st : Nat) (Z : Nat → Nat) (lv : Int) (hlv : 0 ≤ lv ∧ lv < 4) : pn_M l yX0_requireReader wsX0_requireReader ({ frames := 0, cells := 0, slots := 0, locals := 0 } : Room) [.int (iI (lv))] (SP D cI base st Z) := by
  refine pn_of (cc := cX0_requireReader) (maxL := 1) (ret := none) (own := RX0) (by decide) rfl rfl (Nat.le_of_ble_eq_true rfl) ?_
  intro p e s m below meth c ls B hCP hl
  obtain ⟨hx, hb, hml, hr, hts, hown, hlocks⟩ := B
  obtain ⟨hK, hZL, ⟨hstb, xs, hXL, hAL⟩, hTW⟩ := id hCP
  have hl : lv_has ls 1 [(0, .int (iI (lv)))] := hl
  refine lv_iload_n hx hb dX0_requireReader_0 rfl (lv_at hl 0 rfl) ?_
  refine pv_if_lt (tgt := 9) hx hb dX0_requireReader_1 (by decide) (by omega) (fun c_1 => ?_) (fun c_1 => ?_)
  · exfalso; omega
  · -- 1f
    refine lv_iload_n hx hb dX0_requireReader_4 rfl (lv_at hl 0 rfl) ?_
    refine pv_iconst hx hb dX0_requireReader_5 ?_
    refine pv_icmp_lt (tgt := 19) hx hb dX0_requireReader_6 (by decide) (by omega) (fun c_6 => ?_) (fun c_6 => ?_)
    · -- 6t
      exact pn_vret hx hb hr hlocks dX0_requireReader_19
    · exfalso; omega
set_option maxHeartbeats 4000000 in
set_option maxRecDepth 100000 in
theorem t_requireReader (l : Launch) (D : va_G) (cI : ClassId) (base st : Nat) (Z : Nat → Nat) (hfl : l.stackTraces = false) (lv : Int) (hlr : (-2147483648 ≤ lv ∧ lv ≤ 2147483647)) (hlv : ¬ (0 ≤ lv ∧ lv < 4)) : th_M l yX0_requireReader wsX0_requireReader ({ frames := 6, cells := 1, slots := 6, locals := 92 } : Room) [.int (iI (lv))] (SP D cI base st Z) "java/lang/IndexOutOfBoundsException" := by
  refine th_of (cc := cX0_requireReader) (maxL := 1) (ret := none) (own := RX0) (by decide) rfl rfl (Nat.le_of_ble_eq_true rfl) ?_
  intro p e s m below meth c ls B hno hCP hl
  obtain ⟨hx, hb, hml, hr, hts, hown, hlocks⟩ := B
  obtain ⟨hK, hZL, ⟨hstb, xs, hXL, hAL⟩, hTW⟩ := id hCP
  have hl : lv_has ls 1 [(0, .int (iI (lv)))] := hl
  refine lv_iload_n hx hb dX0_requireReader_0 rfl (lv_at hl 0 rfl) ?_
  refine pv_if_lt (tgt := 9) hx hb dX0_requireReader_1 (by decide) (by omega) (fun c_1 => ?_) (fun c_1 => ?_)
  · -- 1t
    have hst : l.stackTraces = false := hfl
    obtain ⟨tw0, tw1, tw2, tw3, kw0, kw1, kw2, kd0, kd1, kd2, hU9, hN9⟩ := hTW
    have hgd : ∀ w ∈ (vx_atS RX0 83 "java/lang/IndexOutOfBoundsException" ["java/lang/RuntimeException", "java/lang/Exception"]).filter goodWord, w ∈ wsX0_requireReader := by decide +kernel
    have hat : ∀ w ∈ vx_atS RX0 83 "java/lang/IndexOutOfBoundsException" ["java/lang/RuntimeException", "java/lang/Exception"], w.before _ s = true := vx_hat (L := vx_atS RX0 83 "java/lang/IndexOutOfBoundsException" ["java/lang/RuntimeException", "java/lang/Exception"]) (B := [.castable "java/lang/IndexOutOfBoundsException" "java/lang/IndexOutOfBoundsException", .declares (Bundle.initS "java/lang/RuntimeException"), .declares (Bundle.initS "java/lang/Exception"), .declares (Bundle.initS "java/lang/Throwable")]) (fun w hw => hts w (hgd w hw)) (by decide +kernel) (vx_c (va_Nw.use rfl kw0) (vx_c (va_Nw.use rfl kd0) (vx_c (va_Nw.use rfl kd1) (vx_c (va_Nw.use rfl kd2) vx_n))))
    exact vx_throwS (rest := []) (names := ["java/lang/RuntimeException", "java/lang/Exception"]) (cls := "java/lang/IndexOutOfBoundsException") (A := fun q => base ≤ q) hx hb hst hown (by decide +kernel) (by decide +kernel) (hts (.classLink RX0 79 "java/lang/IndexOutOfBoundsException") (by decide +kernel)) (hts (.initialized "java/lang/IndexOutOfBoundsException") (by decide +kernel)) tw3 hat (by decide +kernel) hU9 hN9 va_S.rf (hl.1.trans hml.symm) dX0_requireReader_9 dX0_requireReader_12 dX0_requireReader_13 dX0_requireReader_15 dX0_requireReader_18 (fun x hx => (hno x hx).elim) (Nat.le_of_ble_eq_true rfl) (Nat.le_of_ble_eq_true rfl) (Nat.le_of_ble_eq_true rfl) (Nat.le_of_ble_eq_true rfl) hlocks (fun t _ h1 h2 => ⟨rfl, h1, h2⟩) (fun _ h => by cases h) (by omega) (by omega)
  · -- 1f
    refine lv_iload_n hx hb dX0_requireReader_4 rfl (lv_at hl 0 rfl) ?_
    refine pv_iconst hx hb dX0_requireReader_5 ?_
    refine pv_icmp_lt (tgt := 19) hx hb dX0_requireReader_6 (by decide) (by omega) (fun c_6 => ?_) (fun c_6 => ?_)
    · exfalso; omega
    · -- 6f
      have hst : l.stackTraces = false := hfl
      obtain ⟨tw0, tw1, tw2, tw3, kw0, kw1, kw2, kd0, kd1, kd2, hU9, hN9⟩ := hTW
      have hgd : ∀ w ∈ (vx_atS RX0 83 "java/lang/IndexOutOfBoundsException" ["java/lang/RuntimeException", "java/lang/Exception"]).filter goodWord, w ∈ wsX0_requireReader := by decide +kernel
      have hat : ∀ w ∈ vx_atS RX0 83 "java/lang/IndexOutOfBoundsException" ["java/lang/RuntimeException", "java/lang/Exception"], w.before _ s = true := vx_hat (L := vx_atS RX0 83 "java/lang/IndexOutOfBoundsException" ["java/lang/RuntimeException", "java/lang/Exception"]) (B := [.castable "java/lang/IndexOutOfBoundsException" "java/lang/IndexOutOfBoundsException", .declares (Bundle.initS "java/lang/RuntimeException"), .declares (Bundle.initS "java/lang/Exception"), .declares (Bundle.initS "java/lang/Throwable")]) (fun w hw => hts w (hgd w hw)) (by decide +kernel) (vx_c (va_Nw.use rfl kw0) (vx_c (va_Nw.use rfl kd0) (vx_c (va_Nw.use rfl kd1) (vx_c (va_Nw.use rfl kd2) vx_n))))
      exact vx_throwS (rest := []) (names := ["java/lang/RuntimeException", "java/lang/Exception"]) (cls := "java/lang/IndexOutOfBoundsException") (A := fun q => base ≤ q) hx hb hst hown (by decide +kernel) (by decide +kernel) (hts (.classLink RX0 79 "java/lang/IndexOutOfBoundsException") (by decide +kernel)) (hts (.initialized "java/lang/IndexOutOfBoundsException") (by decide +kernel)) tw3 hat (by decide +kernel) hU9 hN9 va_S.rf (hl.1.trans hml.symm) dX0_requireReader_9 dX0_requireReader_12 dX0_requireReader_13 dX0_requireReader_15 dX0_requireReader_18 (fun x hx => (hno x hx).elim) (Nat.le_of_ble_eq_true rfl) (Nat.le_of_ble_eq_true rfl) (Nat.le_of_ble_eq_true rfl) (Nat.le_of_ble_eq_true rfl) hlocks (fun t _ h1 h2 => ⟨rfl, h1, h2⟩) (fun _ h => by cases h) (by omega) (by omega)
set_option maxHeartbeats 4000000 in
set_option maxRecDepth 100000 in
theorem c_requireThatOneMayCome (l : Launch) (D : va_G) (cI : ClassId) (base st : Nat) (Z : Nat → Nat) (x0 x1 x2 x5 x6 x7 : Nat) {n came MV : Int} {F G SP RF RC : Int → Int} (hn : 0 ≤ n ∧ n ≤ 60) (hcm : 0 ≤ came ∧ came ≤ 200) (hfr : came < 200 ∧ n < 60) : pn_M l yX0_requireThatOneMayCome wsX0_requireThatOneMayCome ({ frames := 0, cells := 0, slots := 0, locals := 0 } : Room) [.ref x0] (CP D cI base st Z x0 x1 x2 x5 x6 x7 n came MV F G SP RF RC) := by
  refine pn_of (cc := cX0_requireThatOneMayCome) (maxL := 1) (ret := none) (own := RX0) (by decide) rfl rfl (Nat.le_of_ble_eq_true rfl) ?_
  intro p e s m below meth c ls B hCP hl
  obtain ⟨hx, hb, hml, hr, hts, hown, hlocks⟩ := B
  obtain ⟨⟨hK, hZL, ⟨hstb, xs, hXL, hAL⟩, hTW⟩, f, g, sp, rf, rc, hAf, hAg, hAsp, hArf, hArc, hP, hDb⟩ := id hCP
  have hl : lv_has ls 1 [(0, .ref x0)] := hl
  have hin : ∀ w ∈ u_ws RX0 TX0 8, w ∈ wsX0_requireThatOneMayCome := by decide +kernel
  have q_count := hts (.fieldLink RX0 53 "ShelfMarks" "count" "I") (by decide +kernel)
  have q_came := hts (.fieldLink RX0 106 "ShelfMarks" "came" "I") (by decide +kernel)
  refine lv_aload_n hx hb dX0_requireThatOneMayCome_0 rfl (lv_at hl 0 rfl) ?_
  refine va_get (D := D) (ci := 0) (v := .int (iI (came))) (C := RX0) (T := TX0) (N := 8) hx hb hts hin hown hK hP 0 rfl rfl 3 (by decide) q_came (fun _ h9 => h9) rfl dX0_requireThatOneMayCome_1 ?_
  refine pv_sipush hx hb dX0_requireThatOneMayCome_4 (by decide +kernel) ?_
  refine pv_icmp_ge (tgt := 19) hx hb dX0_requireThatOneMayCome_7 (by decide) (by omega) (fun c_7 => ?_) (fun c_7 => ?_)
  · exfalso; omega
  · -- 7f
    refine lv_aload_n hx hb dX0_requireThatOneMayCome_10 rfl (lv_at hl 0 rfl) ?_
    refine va_get (D := D) (ci := 0) (v := .int (iI (n))) (C := RX0) (T := TX0) (N := 8) hx hb hts hin hown hK hP 0 rfl rfl 2 (by decide) q_count (fun _ h9 => h9) rfl dX0_requireThatOneMayCome_11 ?_
    refine pv_bipush hx hb dX0_requireThatOneMayCome_14 (by decide +kernel) ?_
    refine pv_icmp_lt (tgt := 29) hx hb dX0_requireThatOneMayCome_16 (by decide) (by omega) (fun c_16 => ?_) (fun c_16 => ?_)
    · -- 16t
      exact pn_vret hx hb hr hlocks dX0_requireThatOneMayCome_29
    · exfalso; omega
set_option maxHeartbeats 4000000 in
set_option maxRecDepth 100000 in
theorem t_requireThatOneMayCome (l : Launch) (D : va_G) (cI : ClassId) (base st : Nat) (Z : Nat → Nat) (x0 x1 x2 x5 x6 x7 : Nat) {n came MV : Int} {F G SP RF RC : Int → Int} (hfl : l.stackTraces = false) (hn : 0 ≤ n ∧ n ≤ 60) (hcm : 0 ≤ came ∧ came ≤ 200) (hfr : ¬ (came < 200 ∧ n < 60)) : th_M l yX0_requireThatOneMayCome wsX0_requireThatOneMayCome ({ frames := 6, cells := 1, slots := 6, locals := 92 } : Room) [.ref x0] (CP D cI base st Z x0 x1 x2 x5 x6 x7 n came MV F G SP RF RC) "java/lang/IllegalStateException" := by
  refine th_of (cc := cX0_requireThatOneMayCome) (maxL := 1) (ret := none) (own := RX0) (by decide) rfl rfl (Nat.le_of_ble_eq_true rfl) ?_
  intro p e s m below meth c ls B hno hCP hl
  obtain ⟨hx, hb, hml, hr, hts, hown, hlocks⟩ := B
  obtain ⟨⟨hK, hZL, ⟨hstb, xs, hXL, hAL⟩, hTW⟩, f, g, sp, rf, rc, hAf, hAg, hAsp, hArf, hArc, hP, hDb⟩ := id hCP
  have hl : lv_has ls 1 [(0, .ref x0)] := hl
  have hin : ∀ w ∈ u_ws RX0 TX0 8, w ∈ wsX0_requireThatOneMayCome := by decide +kernel
  have q_count := hts (.fieldLink RX0 53 "ShelfMarks" "count" "I") (by decide +kernel)
  have q_came := hts (.fieldLink RX0 106 "ShelfMarks" "came" "I") (by decide +kernel)
  refine lv_aload_n hx hb dX0_requireThatOneMayCome_0 rfl (lv_at hl 0 rfl) ?_
  refine va_get (D := D) (ci := 0) (v := .int (iI (came))) (C := RX0) (T := TX0) (N := 8) hx hb hts hin hown hK hP 0 rfl rfl 3 (by decide) q_came (fun _ h9 => h9) rfl dX0_requireThatOneMayCome_1 ?_
  refine pv_sipush hx hb dX0_requireThatOneMayCome_4 (by decide +kernel) ?_
  refine pv_icmp_ge (tgt := 19) hx hb dX0_requireThatOneMayCome_7 (by decide) (by omega) (fun c_7 => ?_) (fun c_7 => ?_)
  · -- 7t
    have hst : l.stackTraces = false := hfl
    obtain ⟨tw0, tw1, tw2, tw3, kw0, kw1, kw2, kd0, kd1, kd2, hU9, hN9⟩ := hTW
    have hgd : ∀ w ∈ (vx_atS RX0 113 "java/lang/IllegalStateException" ["java/lang/RuntimeException", "java/lang/Exception"]).filter goodWord, w ∈ wsX0_requireThatOneMayCome := by decide +kernel
    have hat : ∀ w ∈ vx_atS RX0 113 "java/lang/IllegalStateException" ["java/lang/RuntimeException", "java/lang/Exception"], w.before _ s = true := vx_hat (L := vx_atS RX0 113 "java/lang/IllegalStateException" ["java/lang/RuntimeException", "java/lang/Exception"]) (B := [.castable "java/lang/IllegalStateException" "java/lang/IllegalStateException", .declares (Bundle.initS "java/lang/RuntimeException"), .declares (Bundle.initS "java/lang/Exception"), .declares (Bundle.initS "java/lang/Throwable")]) (fun w hw => hts w (hgd w hw)) (by decide +kernel) (vx_c (va_Nw.use rfl kw1) (vx_c (va_Nw.use rfl kd0) (vx_c (va_Nw.use rfl kd1) (vx_c (va_Nw.use rfl kd2) vx_n))))
    exact vx_throwS (rest := []) (names := ["java/lang/RuntimeException", "java/lang/Exception"]) (cls := "java/lang/IllegalStateException") (A := fun q => base ≤ q) hx hb hst hown (by decide +kernel) (by decide +kernel) (hts (.classLink RX0 109 "java/lang/IllegalStateException") (by decide +kernel)) (hts (.initialized "java/lang/IllegalStateException") (by decide +kernel)) tw2 hat (by decide +kernel) hU9 hN9 va_S.rf (hl.1.trans hml.symm) dX0_requireThatOneMayCome_19 dX0_requireThatOneMayCome_22 dX0_requireThatOneMayCome_23 dX0_requireThatOneMayCome_25 dX0_requireThatOneMayCome_28 (fun x hx => (hno x hx).elim) (Nat.le_of_ble_eq_true rfl) (Nat.le_of_ble_eq_true rfl) (Nat.le_of_ble_eq_true rfl) (Nat.le_of_ble_eq_true rfl) hlocks (fun t _ h1 h2 => ⟨rfl, h1, h2⟩) (fun _ h => by cases h) (by omega) (by omega)
  · -- 7f
    refine lv_aload_n hx hb dX0_requireThatOneMayCome_10 rfl (lv_at hl 0 rfl) ?_
    refine va_get (D := D) (ci := 0) (v := .int (iI (n))) (C := RX0) (T := TX0) (N := 8) hx hb hts hin hown hK hP 0 rfl rfl 2 (by decide) q_count (fun _ h9 => h9) rfl dX0_requireThatOneMayCome_11 ?_
    refine pv_bipush hx hb dX0_requireThatOneMayCome_14 (by decide +kernel) ?_
    refine pv_icmp_lt (tgt := 29) hx hb dX0_requireThatOneMayCome_16 (by decide) (by omega) (fun c_16 => ?_) (fun c_16 => ?_)
    · exfalso; omega
    · -- 16f
      have hst : l.stackTraces = false := hfl
      obtain ⟨tw0, tw1, tw2, tw3, kw0, kw1, kw2, kd0, kd1, kd2, hU9, hN9⟩ := hTW
      have hgd : ∀ w ∈ (vx_atS RX0 113 "java/lang/IllegalStateException" ["java/lang/RuntimeException", "java/lang/Exception"]).filter goodWord, w ∈ wsX0_requireThatOneMayCome := by decide +kernel
      have hat : ∀ w ∈ vx_atS RX0 113 "java/lang/IllegalStateException" ["java/lang/RuntimeException", "java/lang/Exception"], w.before _ s = true := vx_hat (L := vx_atS RX0 113 "java/lang/IllegalStateException" ["java/lang/RuntimeException", "java/lang/Exception"]) (B := [.castable "java/lang/IllegalStateException" "java/lang/IllegalStateException", .declares (Bundle.initS "java/lang/RuntimeException"), .declares (Bundle.initS "java/lang/Exception"), .declares (Bundle.initS "java/lang/Throwable")]) (fun w hw => hts w (hgd w hw)) (by decide +kernel) (vx_c (va_Nw.use rfl kw1) (vx_c (va_Nw.use rfl kd0) (vx_c (va_Nw.use rfl kd1) (vx_c (va_Nw.use rfl kd2) vx_n))))
      exact vx_throwS (rest := []) (names := ["java/lang/RuntimeException", "java/lang/Exception"]) (cls := "java/lang/IllegalStateException") (A := fun q => base ≤ q) hx hb hst hown (by decide +kernel) (by decide +kernel) (hts (.classLink RX0 109 "java/lang/IllegalStateException") (by decide +kernel)) (hts (.initialized "java/lang/IllegalStateException") (by decide +kernel)) tw2 hat (by decide +kernel) hU9 hN9 va_S.rf (hl.1.trans hml.symm) dX0_requireThatOneMayCome_19 dX0_requireThatOneMayCome_22 dX0_requireThatOneMayCome_23 dX0_requireThatOneMayCome_25 dX0_requireThatOneMayCome_28 (fun x hx => (hno x hx).elim) (Nat.le_of_ble_eq_true rfl) (Nat.le_of_ble_eq_true rfl) (Nat.le_of_ble_eq_true rfl) (Nat.le_of_ble_eq_true rfl) hlocks (fun t _ h1 h2 => ⟨rfl, h1, h2⟩) (fun _ h => by cases h) (by omega) (by omega)
set_option maxHeartbeats 4000000 in
set_option maxRecDepth 100000 in
theorem c_requirePlace (l : Launch) (D : va_G) (cI : ClassId) (base st : Nat) (Z : Nat → Nat) (x0 x1 x2 x5 x6 x7 : Nat) {n came MV : Int} {F G SP RF RC : Int → Int} (hn : 0 ≤ n ∧ n ≤ 60) (hF : ∀ k : Int, 0 ≤ k → k < n → 0 ≤ F k ∧ F k < 200) (x : Int) (hxr : (-2147483648 ≤ x ∧ x ≤ 2147483647)) (rp : Int) (hrp : PL F n x rp) (h0 : 0 ≤ rp) : pu_M l yX0_requirePlace wsX0_requirePlace ({ frames := 1, cells := 0, slots := 0, locals := 22 } : Room) [.ref x0, .int (iI (x))] (CP D cI base st Z x0 x1 x2 x5 x6 x7 n came MV F G SP RF RC) (rp) := by
  refine pu_of (cc := cX0_requirePlace) (maxL := 3) (ret := (some .int)) (own := RX0) (by decide) rfl rfl (Nat.le_of_ble_eq_true rfl) ?_
  intro p e s m below meth c ls B hCP hl
  obtain ⟨hx, hb, hml, hr, hts, hown, hlocks⟩ := B
  obtain ⟨⟨hK, hZL, ⟨hstb, xs, hXL, hAL⟩, hTW⟩, f, g, sp, rf, rc, hAf, hAg, hAsp, hArf, hArc, hP, hDb⟩ := id hCP
  have hl : lv_has ls 3 [(0, .ref x0), (1, .int (iI (x)))] := hl
  refine lv_aload_n hx hb dX0_requirePlace_0 rfl (lv_at hl 0 rfl) ?_
  refine lv_iload_n hx hb dX0_requirePlace_1 rfl (lv_at hl 1 rfl) ?_
  refine pu_callV (v := rp) (As := [.int (iI (x))]) (rest := []) CP_mv ⟨hx, hb, hml, hown, hts⟩ (c_placeOf l D cI base st Z x0 x1 x2 x5 x6 x7 hn hF x hxr rp hrp) (cwV 1 hts gX0_requirePlace_X0_placeOf rfl rfl rfl (by decide +kernel) ⟨(Nat.le_of_ble_eq_true rfl), (Nat.le_of_ble_eq_true rfl)⟩) hCP (CP_rc hCP) rfl rfl hl.1 (Nat.le_of_ble_eq_true rfl) dX0_requirePlace_2 ⟨Nat.zero_le _, Nat.zero_le _⟩ ?_
  have hpr := PL_rg hn.1 hrp
  refine lv_istore_n (lv' := [(2, .int (iI (rp))), (0, .ref x0), (1, .int (iI (x)))]) hx hb dX0_requirePlace_5 rfl hl (by decide) rfl (fun ls hl => ?_)
  refine lv_iload_n hx hb dX0_requirePlace_6 rfl (lv_at hl 0 rfl) ?_
  refine pv_iconst hx hb dX0_requirePlace_7 ?_
  refine pv_icmp_ne (tgt := 21) hx hb dX0_requirePlace_8 (by decide) (by omega) (fun c_8 => ?_) (fun c_8 => ?_)
  · -- 8t
    refine lv_iload_n hx hb dX0_requirePlace_21 rfl (lv_at hl 0 rfl) ?_
    exact pu_iret hx hb hr hlocks dX0_requirePlace_22 (by rfl)
  · exfalso; omega
set_option maxHeartbeats 4000000 in
set_option maxRecDepth 100000 in
theorem t_requirePlace (l : Launch) (D : va_G) (cI : ClassId) (base st : Nat) (Z : Nat → Nat) (x0 x1 x2 x5 x6 x7 : Nat) {n came MV : Int} {F G SP RF RC : Int → Int} (hfl : l.stackTraces = false) (hn : 0 ≤ n ∧ n ≤ 60) (hF : ∀ k : Int, 0 ≤ k → k < n → 0 ≤ F k ∧ F k < 200) (x : Int) (hxr : (-2147483648 ≤ x ∧ x ≤ 2147483647)) (hrp : PL F n x (-1)) : th_M l yX0_requirePlace wsX0_requirePlace ({ frames := 6, cells := 1, slots := 6, locals := 92 } : Room) [.ref x0, .int (iI (x))] (CP D cI base st Z x0 x1 x2 x5 x6 x7 n came MV F G SP RF RC) "java/lang/IndexOutOfBoundsException" := by
  refine th_of (cc := cX0_requirePlace) (maxL := 3) (ret := (some .int)) (own := RX0) (by decide) rfl rfl (Nat.le_of_ble_eq_true rfl) ?_
  intro p e s m below meth c ls B hno hCP hl
  obtain ⟨hx, hb, hml, hr, hts, hown, hlocks⟩ := B
  obtain ⟨⟨hK, hZL, ⟨hstb, xs, hXL, hAL⟩, hTW⟩, f, g, sp, rf, rc, hAf, hAg, hAsp, hArf, hArc, hP, hDb⟩ := id hCP
  have hl : lv_has ls 3 [(0, .ref x0), (1, .int (iI (x)))] := hl
  refine lv_aload_n hx hb dX0_requirePlace_0 rfl (lv_at hl 0 rfl) ?_
  refine lv_iload_n hx hb dX0_requirePlace_1 rfl (lv_at hl 1 rfl) ?_
  refine pu_callV (v := -1) (As := [.int (iI (x))]) (rest := []) CP_mv ⟨hx, hb, hml, hown, hts⟩ (c_placeOf l D cI base st Z x0 x1 x2 x5 x6 x7 hn hF x hxr (-1) hrp) (cwV 1 hts gX0_requirePlace_X0_placeOf rfl rfl rfl (by decide +kernel) ⟨(Nat.le_of_ble_eq_true rfl), (Nat.le_of_ble_eq_true rfl)⟩) hCP (CP_rc hCP) rfl rfl hl.1 (Nat.le_of_ble_eq_true rfl) dX0_requirePlace_2 ⟨Nat.zero_le _, Nat.zero_le _⟩ ?_
  refine lv_istore_n (lv' := [(2, .int (iI (-1))), (0, .ref x0), (1, .int (iI (x)))]) hx hb dX0_requirePlace_5 rfl hl (by decide) rfl (fun ls hl => ?_)
  refine lv_iload_n hx hb dX0_requirePlace_6 rfl (lv_at hl 0 rfl) ?_
  refine pv_iconst hx hb dX0_requirePlace_7 ?_
  refine pv_icmp_ne (tgt := 21) hx hb dX0_requirePlace_8 (by decide) (by omega) (fun c_8 => ?_) (fun c_8 => ?_)
  · exact absurd rfl c_8
  · -- 8f
    have hst : l.stackTraces = false := hfl
    obtain ⟨tw0, tw1, tw2, tw3, kw0, kw1, kw2, kd0, kd1, kd2, hU9, hN9⟩ := hTW
    have hgd : ∀ w ∈ (vx_atS RX0 83 "java/lang/IndexOutOfBoundsException" ["java/lang/RuntimeException", "java/lang/Exception"]).filter goodWord, w ∈ wsX0_requirePlace := by decide +kernel
    have hat : ∀ w ∈ vx_atS RX0 83 "java/lang/IndexOutOfBoundsException" ["java/lang/RuntimeException", "java/lang/Exception"], w.before _ s = true := vx_hat (L := vx_atS RX0 83 "java/lang/IndexOutOfBoundsException" ["java/lang/RuntimeException", "java/lang/Exception"]) (B := [.castable "java/lang/IndexOutOfBoundsException" "java/lang/IndexOutOfBoundsException", .declares (Bundle.initS "java/lang/RuntimeException"), .declares (Bundle.initS "java/lang/Exception"), .declares (Bundle.initS "java/lang/Throwable")]) (fun w hw => hts w (hgd w hw)) (by decide +kernel) (vx_c (va_Nw.use rfl kw0) (vx_c (va_Nw.use rfl kd0) (vx_c (va_Nw.use rfl kd1) (vx_c (va_Nw.use rfl kd2) vx_n))))
    exact vx_throwS (rest := []) (names := ["java/lang/RuntimeException", "java/lang/Exception"]) (cls := "java/lang/IndexOutOfBoundsException") (A := fun q => base ≤ q) hx hb hst hown (by decide +kernel) (by decide +kernel) (hts (.classLink RX0 79 "java/lang/IndexOutOfBoundsException") (by decide +kernel)) (hts (.initialized "java/lang/IndexOutOfBoundsException") (by decide +kernel)) tw1 hat (by decide +kernel) hU9 hN9 va_S.rf (hl.1.trans hml.symm) dX0_requirePlace_11 dX0_requirePlace_14 dX0_requirePlace_15 dX0_requirePlace_17 dX0_requirePlace_20 (fun x hx => (hno x hx).elim) (Nat.le_of_ble_eq_true rfl) (Nat.le_of_ble_eq_true rfl) (Nat.le_of_ble_eq_true rfl) (Nat.le_of_ble_eq_true rfl) hlocks (fun t _ h1 h2 => ⟨rfl, h1, h2⟩) (fun _ h => by cases h) (by omega) (by omega)
set_option maxHeartbeats 4000000 in
set_option maxRecDepth 100000 in
theorem c_size (l : Launch) (D : va_G) (cI : ClassId) (base st : Nat) (Z : Nat → Nat) (x0 x1 x2 x5 x6 x7 : Nat) {n came MV : Int} {F G SP RF RC : Int → Int} (hn : 0 ≤ n ∧ n ≤ 60) : pu_M l yX0_size wsX0_size ({ frames := 0, cells := 0, slots := 0, locals := 0 } : Room) [.ref x0] (CP D cI base st Z x0 x1 x2 x5 x6 x7 n came MV F G SP RF RC) (n) := by
  refine pu_of (cc := cX0_size) (maxL := 1) (ret := (some .int)) (own := RX0) (by decide) rfl rfl (Nat.le_of_ble_eq_true rfl) ?_
  intro p e s m below meth c ls B hCP hl
  obtain ⟨hx, hb, hml, hr, hts, hown, hlocks⟩ := B
  obtain ⟨⟨hK, hZL, ⟨hstb, xs, hXL, hAL⟩, hTW⟩, f, g, sp, rf, rc, hAf, hAg, hAsp, hArf, hArc, hP, hDb⟩ := id hCP
  have hl : lv_has ls 1 [(0, .ref x0)] := hl
  have hin : ∀ w ∈ u_ws RX0 TX0 8, w ∈ wsX0_size := by decide +kernel
  have q_count := hts (.fieldLink RX0 53 "ShelfMarks" "count" "I") (by decide +kernel)
  refine lv_aload_n hx hb dX0_size_0 rfl (lv_at hl 0 rfl) ?_
  refine va_get (D := D) (ci := 0) (v := .int (iI (n))) (C := RX0) (T := TX0) (N := 8) hx hb hts hin hown hK hP 0 rfl rfl 2 (by decide) q_count (fun _ h9 => h9) rfl dX0_size_1 ?_
  exact pu_iret hx hb hr hlocks dX0_size_4 (by rfl)
set_option maxHeartbeats 4000000 in
set_option maxRecDepth 100000 in
theorem c_first (l : Launch) (D : va_G) (cI : ClassId) (base st : Nat) (Z : Nat → Nat) (x0 x1 x2 x5 x6 x7 : Nat) {n came MV : Int} {F G SP RF RC : Int → Int} (hn : 0 ≤ n ∧ n ≤ 60) (r : Int) (hr9 : r = fa F n 0) : pu_M l yX0_first wsX0_first ({ frames := 2, cells := 0, slots := 0, locals := 42 } : Room) [.ref x0] (CP D cI base st Z x0 x1 x2 x5 x6 x7 n came MV F G SP RF RC) (r) := by
  refine pu_of (cc := cX0_first) (maxL := 1) (ret := (some .int)) (own := RX0) (by decide) rfl rfl (Nat.le_of_ble_eq_true rfl) ?_
  intro p e s m below meth c ls B hCP hl
  obtain ⟨hx, hb, hml, hr, hts, hown, hlocks⟩ := B
  obtain ⟨⟨hK, hZL, ⟨hstb, xs, hXL, hAL⟩, hTW⟩, f, g, sp, rf, rc, hAf, hAg, hAsp, hArf, hArc, hP, hDb⟩ := id hCP
  have hl : lv_has ls 1 [(0, .ref x0)] := hl
  refine lv_aload_n hx hb dX0_first_0 rfl (lv_at hl 0 rfl) ?_
  refine pv_iconst hx hb dX0_first_1 ?_
  refine pu_callV (v := r) (As := [.int (iI (0))]) (rest := []) CP_mv ⟨hx, hb, hml, hown, hts⟩ (c_folderAt l D cI base st Z x0 x1 x2 x5 x6 x7 hn 0 (by omega) r hr9) (cwV 1 hts gX0_first_X0_folderAt rfl rfl rfl (by decide +kernel) ⟨(Nat.le_of_ble_eq_true rfl), (Nat.le_of_ble_eq_true rfl)⟩) hCP (CP_rc hCP) rfl rfl hl.1 (Nat.le_of_ble_eq_true rfl) dX0_first_2 ⟨Nat.zero_le _, Nat.zero_le _⟩ ?_
  exact pu_iret hx hb hr hlocks dX0_first_5 (by rfl)
set_option maxHeartbeats 4000000 in
set_option maxRecDepth 100000 in
theorem c_next (l : Launch) (D : va_G) (cI : ClassId) (base st : Nat) (Z : Nat → Nat) (x0 x1 x2 x5 x6 x7 : Nat) {n came MV : Int} {F G SP RF RC : Int → Int} (hn : 0 ≤ n ∧ n ≤ 60) (hF : ∀ k : Int, 0 ≤ k → k < n → 0 ≤ F k ∧ F k < 200) (x : Int) (hxr : (-2147483648 ≤ x ∧ x ≤ 2147483647)) (rp : Int) (hrp : PL F n x rp) (h0 : 0 ≤ rp) (r : Int) (hr9 : r = fa F n (rp + 1)) : pu_M l yX0_next wsX0_next ({ frames := 2, cells := 0, slots := 0, locals := 44 } : Room) [.ref x0, .int (iI (x))] (CP D cI base st Z x0 x1 x2 x5 x6 x7 n came MV F G SP RF RC) (r) := by
  refine pu_of (cc := cX0_next) (maxL := 2) (ret := (some .int)) (own := RX0) (by decide) rfl rfl (Nat.le_of_ble_eq_true rfl) ?_
  intro p e s m below meth c ls B hCP hl
  obtain ⟨hx, hb, hml, hr, hts, hown, hlocks⟩ := B
  obtain ⟨⟨hK, hZL, ⟨hstb, xs, hXL, hAL⟩, hTW⟩, f, g, sp, rf, rc, hAf, hAg, hAsp, hArf, hArc, hP, hDb⟩ := id hCP
  have hl : lv_has ls 2 [(0, .ref x0), (1, .int (iI (x)))] := hl
  refine lv_aload_n hx hb dX0_next_0 rfl (lv_at hl 0 rfl) ?_
  refine lv_aload_n hx hb dX0_next_1 rfl (lv_at hl 0 rfl) ?_
  refine lv_iload_n hx hb dX0_next_2 rfl (lv_at hl 1 rfl) ?_
  refine pu_callV (v := rp) (As := [.int (iI (x))]) (rest := [.ref x0]) CP_mv ⟨hx, hb, hml, hown, hts⟩ (c_requirePlace l D cI base st Z x0 x1 x2 x5 x6 x7 hn hF x hxr rp hrp h0) (cwV 1 hts gX0_next_X0_requirePlace rfl rfl rfl (by decide +kernel) ⟨(Nat.le_of_ble_eq_true rfl), (Nat.le_of_ble_eq_true rfl)⟩) hCP (CP_rc hCP) rfl rfl hl.1 (Nat.le_of_ble_eq_true rfl) dX0_next_3 ⟨Nat.zero_le _, Nat.zero_le _⟩ ?_
  have hpr := PL_rg hn.1 hrp
  refine pv_iconst hx hb dX0_next_6 ?_
  refine pv_iadd hx hb dX0_next_7 ?_
  refine pu_callV (v := r) (As := [.int (iI ((rp) + (1)))]) (rest := []) CP_mv ⟨hx, hb, hml, hown, hts⟩ (c_folderAt l D cI base st Z x0 x1 x2 x5 x6 x7 hn (rp + 1) (by omega) r hr9) (cwV 1 hts gX0_next_X0_folderAt rfl rfl rfl (by decide +kernel) ⟨(Nat.le_of_ble_eq_true rfl), (Nat.le_of_ble_eq_true rfl)⟩) hCP (CP_rc hCP) rfl rfl hl.1 (Nat.le_of_ble_eq_true rfl) dX0_next_8 ⟨Nat.zero_le _, Nat.zero_le _⟩ ?_
  exact pu_iret hx hb hr hlocks dX0_next_11 (by rfl)
set_option maxHeartbeats 4000000 in
set_option maxRecDepth 100000 in
theorem t_next (l : Launch) (D : va_G) (cI : ClassId) (base st : Nat) (Z : Nat → Nat) (x0 x1 x2 x5 x6 x7 : Nat) {n came MV : Int} {F G SP RF RC : Int → Int} (hfl : l.stackTraces = false) (hn : 0 ≤ n ∧ n ≤ 60) (hF : ∀ k : Int, 0 ≤ k → k < n → 0 ≤ F k ∧ F k < 200) (x : Int) (hxr : (-2147483648 ≤ x ∧ x ≤ 2147483647)) (hrp : PL F n x (-1)) : th_M l yX0_next wsX0_next ({ frames := 7, cells := 1, slots := 6, locals := 114 } : Room) [.ref x0, .int (iI (x))] (CP D cI base st Z x0 x1 x2 x5 x6 x7 n came MV F G SP RF RC) "java/lang/IndexOutOfBoundsException" := by
  refine th_of (cc := cX0_next) (maxL := 2) (ret := (some .int)) (own := RX0) (by decide) rfl rfl (Nat.le_of_ble_eq_true rfl) ?_
  intro p e s m below meth c ls B hno hCP hl
  obtain ⟨hx, hb, hml, hr, hts, hown, hlocks⟩ := B
  obtain ⟨⟨hK, hZL, ⟨hstb, xs, hXL, hAL⟩, hTW⟩, f, g, sp, rf, rc, hAf, hAg, hAsp, hArf, hArc, hP, hDb⟩ := id hCP
  have hl : lv_has ls 2 [(0, .ref x0), (1, .int (iI (x)))] := hl
  refine lv_aload_n hx hb dX0_next_0 rfl (lv_at hl 0 rfl) ?_
  refine lv_aload_n hx hb dX0_next_1 rfl (lv_at hl 0 rfl) ?_
  refine lv_iload_n hx hb dX0_next_2 rfl (lv_at hl 1 rfl) ?_
  refine th_callV (As := [.int (iI (x))]) (rest := [.ref x0]) CP_mv ⟨hx, hb, hml, hown, hts⟩ (t_requirePlace l D cI base st Z x0 x1 x2 x5 x6 x7 hfl hn hF x hxr hrp) (cwV 1 hts gX0_next_X0_requirePlace rfl rfl rfl (by decide +kernel) ⟨(Nat.le_of_ble_eq_true rfl), (Nat.le_of_ble_eq_true rfl)⟩) hCP (CP_rc hCP) rfl rfl hl.1 (Nat.le_of_ble_eq_true rfl) dX0_next_3 ⟨(Nat.le_of_ble_eq_true rfl), (Nat.le_of_ble_eq_true rfl)⟩ (fun H1 ce q9 h1 h2 h3 h4 h5 => ?_)
  exact th_out hno hlocks h1 h2 h3 h4 h5
set_option maxHeartbeats 4000000 in
set_option maxRecDepth 100000 in
theorem c_mark (l : Launch) (D : va_G) (cI : ClassId) (base st : Nat) (Z : Nat → Nat) (x0 x1 x2 x5 x6 x7 : Nat) {n came MV : Int} {F G SP RF RC : Int → Int} (hn : 0 ≤ n ∧ n ≤ 60) (hF : ∀ k : Int, 0 ≤ k → k < n → 0 ≤ F k ∧ F k < 200) (x : Int) (hxr : (-2147483648 ≤ x ∧ x ≤ 2147483647)) (rp : Int) (hrp : PL F n x rp) (h0 : 0 ≤ rp) : pu_M l yX0_mark wsX0_mark ({ frames := 2, cells := 0, slots := 0, locals := 44 } : Room) [.ref x0, .int (iI (x))] (CP D cI base st Z x0 x1 x2 x5 x6 x7 n came MV F G SP RF RC) (G rp) := by
  refine pu_of (cc := cX0_mark) (maxL := 2) (ret := (some .int)) (own := RX0) (by decide) rfl rfl (Nat.le_of_ble_eq_true rfl) ?_
  intro p e s m below meth c ls B hCP hl
  obtain ⟨hx, hb, hml, hr, hts, hown, hlocks⟩ := B
  obtain ⟨⟨hK, hZL, ⟨hstb, xs, hXL, hAL⟩, hTW⟩, f, g, sp, rf, rc, hAf, hAg, hAsp, hArf, hArc, hP, hDb⟩ := id hCP
  have hl : lv_has ls 2 [(0, .ref x0), (1, .int (iI (x)))] := hl
  refine lv_aload_n hx hb dX0_mark_0 rfl (lv_at hl 0 rfl) ?_
  refine lv_aload_n hx hb dX0_mark_1 rfl (lv_at hl 0 rfl) ?_
  refine lv_iload_n hx hb dX0_mark_2 rfl (lv_at hl 1 rfl) ?_
  refine pu_callV (v := rp) (As := [.int (iI (x))]) (rest := [.ref x0]) CP_mv ⟨hx, hb, hml, hown, hts⟩ (c_requirePlace l D cI base st Z x0 x1 x2 x5 x6 x7 hn hF x hxr rp hrp h0) (cwV 1 hts gX0_mark_X0_requirePlace rfl rfl rfl (by decide +kernel) ⟨(Nat.le_of_ble_eq_true rfl), (Nat.le_of_ble_eq_true rfl)⟩) hCP (CP_rc hCP) rfl rfl hl.1 (Nat.le_of_ble_eq_true rfl) dX0_mark_3 ⟨Nat.zero_le _, Nat.zero_le _⟩ ?_
  have hpr := PL_rg hn.1 hrp
  refine pu_callV (v := G rp) (As := [.int (iI (rp))]) (rest := []) CP_mv ⟨hx, hb, hml, hown, hts⟩ (c_markAt l D cI base st Z x0 x1 x2 x5 x6 x7 hn rp (by omega) _ (ma_in (by omega))) (cwV 1 hts gX0_mark_X0_markAt rfl rfl rfl (by decide +kernel) ⟨(Nat.le_of_ble_eq_true rfl), (Nat.le_of_ble_eq_true rfl)⟩) hCP (CP_rc hCP) rfl rfl hl.1 (Nat.le_of_ble_eq_true rfl) dX0_mark_6 ⟨Nat.zero_le _, Nat.zero_le _⟩ ?_
  exact pu_iret hx hb hr hlocks dX0_mark_9 (by rfl)
set_option maxHeartbeats 4000000 in
set_option maxRecDepth 100000 in
theorem t_mark (l : Launch) (D : va_G) (cI : ClassId) (base st : Nat) (Z : Nat → Nat) (x0 x1 x2 x5 x6 x7 : Nat) {n came MV : Int} {F G SP RF RC : Int → Int} (hfl : l.stackTraces = false) (hn : 0 ≤ n ∧ n ≤ 60) (hF : ∀ k : Int, 0 ≤ k → k < n → 0 ≤ F k ∧ F k < 200) (x : Int) (hxr : (-2147483648 ≤ x ∧ x ≤ 2147483647)) (hrp : PL F n x (-1)) : th_M l yX0_mark wsX0_mark ({ frames := 7, cells := 1, slots := 6, locals := 114 } : Room) [.ref x0, .int (iI (x))] (CP D cI base st Z x0 x1 x2 x5 x6 x7 n came MV F G SP RF RC) "java/lang/IndexOutOfBoundsException" := by
  refine th_of (cc := cX0_mark) (maxL := 2) (ret := (some .int)) (own := RX0) (by decide) rfl rfl (Nat.le_of_ble_eq_true rfl) ?_
  intro p e s m below meth c ls B hno hCP hl
  obtain ⟨hx, hb, hml, hr, hts, hown, hlocks⟩ := B
  obtain ⟨⟨hK, hZL, ⟨hstb, xs, hXL, hAL⟩, hTW⟩, f, g, sp, rf, rc, hAf, hAg, hAsp, hArf, hArc, hP, hDb⟩ := id hCP
  have hl : lv_has ls 2 [(0, .ref x0), (1, .int (iI (x)))] := hl
  refine lv_aload_n hx hb dX0_mark_0 rfl (lv_at hl 0 rfl) ?_
  refine lv_aload_n hx hb dX0_mark_1 rfl (lv_at hl 0 rfl) ?_
  refine lv_iload_n hx hb dX0_mark_2 rfl (lv_at hl 1 rfl) ?_
  refine th_callV (As := [.int (iI (x))]) (rest := [.ref x0]) CP_mv ⟨hx, hb, hml, hown, hts⟩ (t_requirePlace l D cI base st Z x0 x1 x2 x5 x6 x7 hfl hn hF x hxr hrp) (cwV 1 hts gX0_mark_X0_requirePlace rfl rfl rfl (by decide +kernel) ⟨(Nat.le_of_ble_eq_true rfl), (Nat.le_of_ble_eq_true rfl)⟩) hCP (CP_rc hCP) rfl rfl hl.1 (Nat.le_of_ble_eq_true rfl) dX0_mark_3 ⟨(Nat.le_of_ble_eq_true rfl), (Nat.le_of_ble_eq_true rfl)⟩ (fun H1 ce q9 h1 h2 h3 h4 h5 => ?_)
  exact th_out hno hlocks h1 h2 h3 h4 h5
set_option maxHeartbeats 4000000 in
set_option maxRecDepth 100000 in
theorem c_ahead (l : Launch) (D : va_G) (cI : ClassId) (base st : Nat) (Z : Nat → Nat) (x0 x1 x2 x5 x6 x7 : Nat) {n came MV : Int} {F G SP RF RC : Int → Int} (hn : 0 ≤ n ∧ n ≤ 60) (hF : ∀ k : Int, 0 ≤ k → k < n → 0 ≤ F k ∧ F k < 200) (x : Int) (hxr : (-2147483648 ≤ x ∧ x ≤ 2147483647)) (rp : Int) (hrp : PL F n x rp) (h0 : 0 ≤ rp) (hG : ∀ k : Int, 0 ≤ k → k < n → 0 ≤ G k ∧ G k ≤ 255) (hs : SD G n) : pu_M l yX0_ahead wsX0_ahead ({ frames := 2, cells := 0, slots := 0, locals := 44 } : Room) [.ref x0, .int (iI (x))] (CP D cI base st Z x0 x1 x2 x5 x6 x7 n came MV F G SP RF RC) (mb G n (G rp)) := by
  refine pu_of (cc := cX0_ahead) (maxL := 2) (ret := (some .int)) (own := RX0) (by decide) rfl rfl (Nat.le_of_ble_eq_true rfl) ?_
  intro p e s m below meth c ls B hCP hl
  obtain ⟨hx, hb, hml, hr, hts, hown, hlocks⟩ := B
  obtain ⟨⟨hK, hZL, ⟨hstb, xs, hXL, hAL⟩, hTW⟩, f, g, sp, rf, rc, hAf, hAg, hAsp, hArf, hArc, hP, hDb⟩ := id hCP
  have hl : lv_has ls 2 [(0, .ref x0), (1, .int (iI (x)))] := hl
  refine lv_aload_n hx hb dX0_ahead_0 rfl (lv_at hl 0 rfl) ?_
  refine lv_aload_n hx hb dX0_ahead_1 rfl (lv_at hl 0 rfl) ?_
  refine lv_aload_n hx hb dX0_ahead_2 rfl (lv_at hl 0 rfl) ?_
  refine lv_iload_n hx hb dX0_ahead_3 rfl (lv_at hl 1 rfl) ?_
  refine pu_callV (v := rp) (As := [.int (iI (x))]) (rest := [.ref x0, .ref x0]) CP_mv ⟨hx, hb, hml, hown, hts⟩ (c_requirePlace l D cI base st Z x0 x1 x2 x5 x6 x7 hn hF x hxr rp hrp h0) (cwV 1 hts gX0_ahead_X0_requirePlace rfl rfl rfl (by decide +kernel) ⟨(Nat.le_of_ble_eq_true rfl), (Nat.le_of_ble_eq_true rfl)⟩) hCP (CP_rc hCP) rfl rfl hl.1 (Nat.le_of_ble_eq_true rfl) dX0_ahead_4 ⟨Nat.zero_le _, Nat.zero_le _⟩ ?_
  have hpr := PL_rg hn.1 hrp
  have hgp := hG rp h0 (by omega)
  refine pu_callV (v := G rp) (As := [.int (iI (rp))]) (rest := [.ref x0]) CP_mv ⟨hx, hb, hml, hown, hts⟩ (c_markAt l D cI base st Z x0 x1 x2 x5 x6 x7 hn rp (by omega) _ (ma_in (by omega))) (cwV 1 hts gX0_ahead_X0_markAt rfl rfl rfl (by decide +kernel) ⟨(Nat.le_of_ble_eq_true rfl), (Nat.le_of_ble_eq_true rfl)⟩) hCP (CP_rc hCP) rfl rfl hl.1 (Nat.le_of_ble_eq_true rfl) dX0_ahead_7 ⟨Nat.zero_le _, Nat.zero_le _⟩ ?_
  refine pu_callV (v := mb G n (G rp)) (As := [.int (iI (G rp))]) (rest := []) CP_mv ⟨hx, hb, hml, hown, hts⟩ (c_marksBelow l D cI base st Z x0 x1 x2 x5 x6 x7 hn hG _ (by omega) _ (mb_FI _ hn.1 hs)) (cwV 1 hts gX0_ahead_X0_marksBelow rfl rfl rfl (by decide +kernel) ⟨(Nat.le_of_ble_eq_true rfl), (Nat.le_of_ble_eq_true rfl)⟩) hCP (CP_rc hCP) rfl rfl hl.1 (Nat.le_of_ble_eq_true rfl) dX0_ahead_10 ⟨Nat.zero_le _, Nat.zero_le _⟩ ?_
  exact pu_iret hx hb hr hlocks dX0_ahead_13 (by rfl)
set_option maxHeartbeats 4000000 in
set_option maxRecDepth 100000 in
theorem t_ahead (l : Launch) (D : va_G) (cI : ClassId) (base st : Nat) (Z : Nat → Nat) (x0 x1 x2 x5 x6 x7 : Nat) {n came MV : Int} {F G SP RF RC : Int → Int} (hfl : l.stackTraces = false) (hn : 0 ≤ n ∧ n ≤ 60) (hF : ∀ k : Int, 0 ≤ k → k < n → 0 ≤ F k ∧ F k < 200) (x : Int) (hxr : (-2147483648 ≤ x ∧ x ≤ 2147483647)) (hrp : PL F n x (-1)) : th_M l yX0_ahead wsX0_ahead ({ frames := 7, cells := 1, slots := 6, locals := 114 } : Room) [.ref x0, .int (iI (x))] (CP D cI base st Z x0 x1 x2 x5 x6 x7 n came MV F G SP RF RC) "java/lang/IndexOutOfBoundsException" := by
  refine th_of (cc := cX0_ahead) (maxL := 2) (ret := (some .int)) (own := RX0) (by decide) rfl rfl (Nat.le_of_ble_eq_true rfl) ?_
  intro p e s m below meth c ls B hno hCP hl
  obtain ⟨hx, hb, hml, hr, hts, hown, hlocks⟩ := B
  obtain ⟨⟨hK, hZL, ⟨hstb, xs, hXL, hAL⟩, hTW⟩, f, g, sp, rf, rc, hAf, hAg, hAsp, hArf, hArc, hP, hDb⟩ := id hCP
  have hl : lv_has ls 2 [(0, .ref x0), (1, .int (iI (x)))] := hl
  refine lv_aload_n hx hb dX0_ahead_0 rfl (lv_at hl 0 rfl) ?_
  refine lv_aload_n hx hb dX0_ahead_1 rfl (lv_at hl 0 rfl) ?_
  refine lv_aload_n hx hb dX0_ahead_2 rfl (lv_at hl 0 rfl) ?_
  refine lv_iload_n hx hb dX0_ahead_3 rfl (lv_at hl 1 rfl) ?_
  refine th_callV (As := [.int (iI (x))]) (rest := [.ref x0, .ref x0]) CP_mv ⟨hx, hb, hml, hown, hts⟩ (t_requirePlace l D cI base st Z x0 x1 x2 x5 x6 x7 hfl hn hF x hxr hrp) (cwV 1 hts gX0_ahead_X0_requirePlace rfl rfl rfl (by decide +kernel) ⟨(Nat.le_of_ble_eq_true rfl), (Nat.le_of_ble_eq_true rfl)⟩) hCP (CP_rc hCP) rfl rfl hl.1 (Nat.le_of_ble_eq_true rfl) dX0_ahead_4 ⟨(Nat.le_of_ble_eq_true rfl), (Nat.le_of_ble_eq_true rfl)⟩ (fun H1 ce q9 h1 h2 h3 h4 h5 => ?_)
  exact th_out hno hlocks h1 h2 h3 h4 h5
set_option maxHeartbeats 4000000 in
set_option maxRecDepth 100000 in
theorem c_at (l : Launch) (D : va_G) (cI : ClassId) (base st : Nat) (Z : Nat → Nat) (x0 x1 x2 x5 x6 x7 : Nat) {n came MV : Int} {F G SP RF RC : Int → Int} (lv : Int) (hlv : 0 ≤ lv ∧ lv < 4) : pu_M l yX0_at wsX0_at ({ frames := 1, cells := 0, slots := 0, locals := 20 } : Room) [.ref x0, .int (iI (lv))] (CP D cI base st Z x0 x1 x2 x5 x6 x7 n came MV F G SP RF RC) (RF lv) := by
  refine pu_of (cc := cX0_at) (maxL := 2) (ret := (some .int)) (own := RX0) (by decide) rfl rfl (Nat.le_of_ble_eq_true rfl) ?_
  intro p e s m below meth c ls B hCP hl
  obtain ⟨hx, hb, hml, hr, hts, hown, hlocks⟩ := B
  obtain ⟨⟨hK, hZL, ⟨hstb, xs, hXL, hAL⟩, hTW⟩, f, g, sp, rf, rc, hAf, hAg, hAsp, hArf, hArc, hP, hDb⟩ := id hCP
  have hl : lv_has ls 2 [(0, .ref x0), (1, .int (iI (lv)))] := hl
  have hin : ∀ w ∈ u_ws RX0 TX0 8, w ∈ wsX0_at := by decide +kernel
  have q_readerFolders := hts (.fieldLink RX0 22 "ShelfMarks" "readerFolders" "[I") (by decide +kernel)
  refine lv_iload_n hx hb dX0_at_0 rfl (lv_at hl 1 rfl) ?_
  refine pn_callS (As := [.int (iI (lv))]) (rest := []) SP_mv ⟨hx, hb, hml, hown, hts⟩ (c_requireReader l D cI base st Z lv hlv) (va_cwS 1 hts gX0_at_X0_requireReader rfl rfl rfl (by decide +kernel) ⟨(Nat.le_of_ble_eq_true rfl), (Nat.le_of_ble_eq_true rfl)⟩) hCP.1 rfl rfl hl.1 (Nat.le_of_ble_eq_true rfl) dX0_at_1 ⟨Nat.zero_le _, Nat.zero_le _⟩ ?_
  refine lv_aload_n hx hb dX0_at_4 rfl (lv_at hl 0 rfl) ?_
  refine va_get (D := D) (ci := 0) (v := .ref x6) (C := RX0) (T := TX0) (N := 8) hx hb hts hin hown hK hP 0 rfl rfl 6 (by decide) q_readerFolders (fun _ h9 => h9) rfl dX0_at_5 ?_
  refine lv_iload_n hx hb dX0_at_8 rfl (lv_at hl 1 rfl) ?_
  refine pv_iald (i := lv) (v := RF (lv)) hx hb hK hP 4 0 rfl rfl (by omega) (by decide) (hArf _ (by omega) (by omega)) dX0_at_9 ?_
  exact pu_iret hx hb hr hlocks dX0_at_10 (by rfl)
set_option maxHeartbeats 4000000 in
set_option maxRecDepth 100000 in
theorem t_at (l : Launch) (D : va_G) (cI : ClassId) (base st : Nat) (Z : Nat → Nat) (x0 x1 x2 x5 x6 x7 : Nat) {n came MV : Int} {F G SP RF RC : Int → Int} (hfl : l.stackTraces = false) (lv : Int) (hlr : (-2147483648 ≤ lv ∧ lv ≤ 2147483647)) (hlv : ¬ (0 ≤ lv ∧ lv < 4)) : th_M l yX0_at wsX0_at ({ frames := 7, cells := 1, slots := 6, locals := 112 } : Room) [.ref x0, .int (iI (lv))] (CP D cI base st Z x0 x1 x2 x5 x6 x7 n came MV F G SP RF RC) "java/lang/IndexOutOfBoundsException" := by
  refine th_of (cc := cX0_at) (maxL := 2) (ret := (some .int)) (own := RX0) (by decide) rfl rfl (Nat.le_of_ble_eq_true rfl) ?_
  intro p e s m below meth c ls B hno hCP hl
  obtain ⟨hx, hb, hml, hr, hts, hown, hlocks⟩ := B
  obtain ⟨⟨hK, hZL, ⟨hstb, xs, hXL, hAL⟩, hTW⟩, f, g, sp, rf, rc, hAf, hAg, hAsp, hArf, hArc, hP, hDb⟩ := id hCP
  have hl : lv_has ls 2 [(0, .ref x0), (1, .int (iI (lv)))] := hl
  refine lv_iload_n hx hb dX0_at_0 rfl (lv_at hl 1 rfl) ?_
  refine th_callS (As := [.int (iI (lv))]) (rest := []) SP_mv ⟨hx, hb, hml, hown, hts⟩ (t_requireReader l D cI base st Z hfl lv hlr hlv) (va_cwS 1 hts gX0_at_X0_requireReader rfl rfl rfl (by decide +kernel) ⟨(Nat.le_of_ble_eq_true rfl), (Nat.le_of_ble_eq_true rfl)⟩) hCP.1 rfl rfl hl.1 (Nat.le_of_ble_eq_true rfl) dX0_at_1 ⟨(Nat.le_of_ble_eq_true rfl), (Nat.le_of_ble_eq_true rfl)⟩ (fun H1 ce q9 h1 h2 h3 h4 h5 => ?_)
  exact th_out hno hlocks h1 h2 h3 h4 h5
set_option maxHeartbeats 4000000 in
set_option maxRecDepth 100000 in
theorem c_read (l : Launch) (D : va_G) (cI : ClassId) (base st : Nat) (Z : Nat → Nat) (x0 x1 x2 x5 x6 x7 : Nat) {n came MV : Int} {F G SP RF RC : Int → Int} (lv : Int) (hlv : 0 ≤ lv ∧ lv < 4) : pu_M l yX0_read wsX0_read ({ frames := 1, cells := 0, slots := 0, locals := 20 } : Room) [.ref x0, .int (iI (lv))] (CP D cI base st Z x0 x1 x2 x5 x6 x7 n came MV F G SP RF RC) (RC lv) := by
  refine pu_of (cc := cX0_read) (maxL := 2) (ret := (some .int)) (own := RX0) (by decide) rfl rfl (Nat.le_of_ble_eq_true rfl) ?_
  intro p e s m below meth c ls B hCP hl
  obtain ⟨hx, hb, hml, hr, hts, hown, hlocks⟩ := B
  obtain ⟨⟨hK, hZL, ⟨hstb, xs, hXL, hAL⟩, hTW⟩, f, g, sp, rf, rc, hAf, hAg, hAsp, hArf, hArc, hP, hDb⟩ := id hCP
  have hl : lv_has ls 2 [(0, .ref x0), (1, .int (iI (lv)))] := hl
  have hin : ∀ w ∈ u_ws RX0 TX0 8, w ∈ wsX0_read := by decide +kernel
  have q_readerCounts := hts (.fieldLink RX0 25 "ShelfMarks" "readerCounts" "[I") (by decide +kernel)
  refine lv_iload_n hx hb dX0_read_0 rfl (lv_at hl 1 rfl) ?_
  refine pn_callS (As := [.int (iI (lv))]) (rest := []) SP_mv ⟨hx, hb, hml, hown, hts⟩ (c_requireReader l D cI base st Z lv hlv) (va_cwS 1 hts gX0_read_X0_requireReader rfl rfl rfl (by decide +kernel) ⟨(Nat.le_of_ble_eq_true rfl), (Nat.le_of_ble_eq_true rfl)⟩) hCP.1 rfl rfl hl.1 (Nat.le_of_ble_eq_true rfl) dX0_read_1 ⟨Nat.zero_le _, Nat.zero_le _⟩ ?_
  refine lv_aload_n hx hb dX0_read_4 rfl (lv_at hl 0 rfl) ?_
  refine va_get (D := D) (ci := 0) (v := .ref x7) (C := RX0) (T := TX0) (N := 8) hx hb hts hin hown hK hP 0 rfl rfl 7 (by decide) q_readerCounts (fun _ h9 => h9) rfl dX0_read_5 ?_
  refine lv_iload_n hx hb dX0_read_8 rfl (lv_at hl 1 rfl) ?_
  refine pv_iald (i := lv) (v := RC (lv)) hx hb hK hP 5 0 rfl rfl (by omega) (by decide) (hArc _ (by omega) (by omega)) dX0_read_9 ?_
  exact pu_iret hx hb hr hlocks dX0_read_10 (by rfl)
set_option maxHeartbeats 4000000 in
set_option maxRecDepth 100000 in
theorem t_read (l : Launch) (D : va_G) (cI : ClassId) (base st : Nat) (Z : Nat → Nat) (x0 x1 x2 x5 x6 x7 : Nat) {n came MV : Int} {F G SP RF RC : Int → Int} (hfl : l.stackTraces = false) (lv : Int) (hlr : (-2147483648 ≤ lv ∧ lv ≤ 2147483647)) (hlv : ¬ (0 ≤ lv ∧ lv < 4)) : th_M l yX0_read wsX0_read ({ frames := 7, cells := 1, slots := 6, locals := 112 } : Room) [.ref x0, .int (iI (lv))] (CP D cI base st Z x0 x1 x2 x5 x6 x7 n came MV F G SP RF RC) "java/lang/IndexOutOfBoundsException" := by
  refine th_of (cc := cX0_read) (maxL := 2) (ret := (some .int)) (own := RX0) (by decide) rfl rfl (Nat.le_of_ble_eq_true rfl) ?_
  intro p e s m below meth c ls B hno hCP hl
  obtain ⟨hx, hb, hml, hr, hts, hown, hlocks⟩ := B
  obtain ⟨⟨hK, hZL, ⟨hstb, xs, hXL, hAL⟩, hTW⟩, f, g, sp, rf, rc, hAf, hAg, hAsp, hArf, hArc, hP, hDb⟩ := id hCP
  have hl : lv_has ls 2 [(0, .ref x0), (1, .int (iI (lv)))] := hl
  refine lv_iload_n hx hb dX0_read_0 rfl (lv_at hl 1 rfl) ?_
  refine th_callS (As := [.int (iI (lv))]) (rest := []) SP_mv ⟨hx, hb, hml, hown, hts⟩ (t_requireReader l D cI base st Z hfl lv hlr hlv) (va_cwS 1 hts gX0_read_X0_requireReader rfl rfl rfl (by decide +kernel) ⟨(Nat.le_of_ble_eq_true rfl), (Nat.le_of_ble_eq_true rfl)⟩) hCP.1 rfl rfl hl.1 (Nat.le_of_ble_eq_true rfl) dX0_read_1 ⟨(Nat.le_of_ble_eq_true rfl), (Nat.le_of_ble_eq_true rfl)⟩ (fun H1 ce q9 h1 h2 h3 h4 h5 => ?_)
  exact th_out hno hlocks h1 h2 h3 h4 h5
set_option maxHeartbeats 4000000 in
set_option maxRecDepth 100000 in
theorem c_readersAt (l : Launch) (D : va_G) (cI : ClassId) (base st : Nat) (Z : Nat → Nat) (x0 x1 x2 x5 x6 x7 : Nat) {n came MV : Int} {F G SP RF RC : Int → Int} (hRF : ∀ k : Int, 0 ≤ k → k < 4 → -1 ≤ RF k ∧ RF k < 200) (x : Int) (hxr : (-2147483648 ≤ x ∧ x ≤ 2147483647)) : pu_M l yX0_readersAt wsX0_readersAt ({ frames := 0, cells := 0, slots := 0, locals := 0 } : Room) [.ref x0, .int (iI (x))] (CP D cI base st Z x0 x1 x2 x5 x6 x7 n came MV F G SP RF RC) (cn (fun k => decide (RF k = x)) 4) := by
  refine pu_of (cc := cX0_readersAt) (maxL := 4) (ret := (some .int)) (own := RX0) (by decide) rfl rfl (Nat.le_of_ble_eq_true rfl) ?_
  intro p e s m below meth c ls B hCP hl
  obtain ⟨hx, hb, hml, hr, hts, hown, hlocks⟩ := B
  obtain ⟨⟨hK, hZL, ⟨hstb, xs, hXL, hAL⟩, hTW⟩, f, g, sp, rf, rc, hAf, hAg, hAsp, hArf, hArc, hP, hDb⟩ := id hCP
  have hl : lv_has ls 4 [(0, .ref x0), (1, .int (iI (x)))] := hl
  have hin : ∀ w ∈ u_ws RX0 TX0 8, w ∈ wsX0_readersAt := by decide +kernel
  have q_readerFolders := hts (.fieldLink RX0 22 "ShelfMarks" "readerFolders" "[I") (by decide +kernel)
  refine pv_iconst hx hb dX0_readersAt_0 ?_
  refine lv_istore_n (lv' := [(2, .int (iI (0))), (0, .ref x0), (1, .int (iI (x)))]) hx hb dX0_readersAt_1 rfl hl (by decide) rfl (fun ls hl => ?_)
  refine pv_iconst hx hb dX0_readersAt_2 ?_
  refine lv_istore_n (lv' := [(3, .int (iI (0))), (2, .int (iI (0))), (0, .ref x0), (1, .int (iI (x)))]) hx hb dX0_readersAt_3 rfl hl (by decide) rfl (fun ls hl => ?_)
  have hloop4 : ∀ (fuel : Nat) (fd : Int) (k : Int) (ls : Array Slot), (4 - k) < fuel → (0 ≤ k ∧ k ≤ 4) → (fd = cn (fun k => decide (RF k = x)) k.toNat) → lv_has ls 4 [(0, .ref x0), (1, .int (iI (x))), (2, .int (iI (fd))), (3, .int (iI (k)))] → W p l e ({ frames := 0, cells := 0, slots := 0, locals := 0 } : Room) s m ([.ref x0, .int (iI (x))] : List Value).toArray below meth c s.heap [] 0 0 (MQ below (pu_Q (cn (fun k => decide (RF k = x)) 4)) ([.ref x0, .int (iI (x))] : List Value).toArray s 0 0 (fun _ => False)) (F0 m 4 ls []) := by
    intro fuel
    induction fuel with
    | zero => intro fd k ls hfu hk hfd hl; exfalso; omega
    | succ fuel ih =>
      intro fd k ls hfu hk hfd hl
      refine lv_iload_n hx hb dX0_readersAt_4 rfl (lv_at hl 3 rfl) ?_
      refine pv_iconst hx hb dX0_readersAt_5 ?_
      refine pv_icmp_ge (tgt := 28) hx hb dX0_readersAt_6 (by decide) (by omega) (fun c_6 => ?_) (fun c_6 => ?_)
      · -- 6t
        refine lv_iload_n hx hb dX0_readersAt_28 rfl (lv_at hl 2 rfl) ?_
        exact pu_iret hx hb hr hlocks dX0_readersAt_29 (by rw [hfd, show k.toNat = 4 by omega])
      · -- 6f
        refine lv_aload_n hx hb dX0_readersAt_9 rfl (lv_at hl 0 rfl) ?_
        refine va_get (D := D) (ci := 0) (v := .ref x6) (C := RX0) (T := TX0) (N := 8) hx hb hts hin hown hK hP 0 rfl rfl 6 (by decide) q_readerFolders (fun _ h9 => h9) rfl dX0_readersAt_10 ?_
        refine lv_iload_n hx hb dX0_readersAt_13 rfl (lv_at hl 3 rfl) ?_
        refine pv_iald (i := k) (v := RF (k)) hx hb hK hP 4 0 rfl rfl (by omega) (by decide) (hArf _ (by omega) (by omega)) dX0_readersAt_14 ?_
        have hrk := hRF k (by omega) (by omega)
        refine lv_iload_n hx hb dX0_readersAt_15 rfl (lv_at hl 1 rfl) ?_
        refine pv_icmp_ne (tgt := 22) hx hb dX0_readersAt_16 (by decide) (by omega) (fun c_16 => ?_) (fun c_16 => ?_)
        · -- 16t
          refine pv_iinc (lv' := [(3, .int (iI (k + 1))), (0, .ref x0), (1, .int (iI (x))), (2, .int (iI (fd)))]) hx hb dX0_readersAt_22 hl (k := 3) rfl (by decide) rfl (fun ls hl => ?_)
          refine lv_goto (tgt := 4) hx hb dX0_readersAt_25 (by decide) ?_
          exact ih (fd) (k + 1) ls (by omega) (by omega) (by rw [hfd]; exact (cn_f _ (by omega) (decide_eq_false c_16)).symm) (lv_sub hl [1, 2, 3, 0] rfl)
        · -- 16f
          refine pv_iinc (lv' := [(2, .int (iI (fd + 1))), (0, .ref x0), (1, .int (iI (x))), (3, .int (iI (k)))]) hx hb dX0_readersAt_19 hl (k := 2) rfl (by decide) rfl (fun ls hl => ?_)
          refine pv_iinc (lv' := [(3, .int (iI (k + 1))), (2, .int (iI (fd + 1))), (0, .ref x0), (1, .int (iI (x)))]) hx hb dX0_readersAt_22 hl (k := 3) rfl (by decide) rfl (fun ls hl => ?_)
          refine lv_goto (tgt := 4) hx hb dX0_readersAt_25 (by decide) ?_
          exact ih (fd + 1) (k + 1) ls (by omega) (by omega) (by rw [hfd]; exact (cn_t _ (by omega) (decide_eq_true c_16)).symm) (lv_sub hl [2, 3, 1, 0] rfl)
  exact hloop4 ((4 : Int).toNat + 1) (0) (0) ls (by omega) (by omega) (rfl) (lv_sub hl [2, 3, 1, 0] rfl)
end
section
/-! the pure words of what changes -/
def insF (F : Int → Int) (p x : Int) : Int → Int := fun k => if k < p then F k else if k = p then x else F (k - 1)
def remF (F : Int → Int) (p : Int) : Int → Int := fun k => if k < p then F k else F (k + 1)
def sendF (RF : Int → Int) (x nx : Int) : Int → Int := fun k => if RF k = x then nx else RF k
def spG (G : Int → Int) (lo w bg t : Int) : Int → Int := fun k => if k < bg then G k else if k < bg + t then nm lo w t (k - bg) else G (k - 1)
def A0 (G : Int → Int) (n q : Int) : Int := if ma G n (q - 1) < 0 then 0 else ma G n (q - 1)
/-- where a folder comes in: the marks behind it, how many are moved, the levels' counts behind it -/
def PT (G : Int → Int) (n q : Int) (SP G2 : Int → Int) (dm : Int) (SP2 : Int → Int) : Prop :=
  (2 ≤ ma G n q - ma G n (q - 1) ∧ G2 = insF G q ((ma G n (q - 1) + ma G n q) / 2) ∧ dm = 0 ∧ SP2 = SP) ∨
  (ma G n q - ma G n (q - 1) < 2 ∧ ∃ lv, LV G n (A0 G n q) lv ∧
    G2 = spG G (A0 G n q / 2 ^ lv.toNat * 2 ^ lv.toNat) (2 ^ lv.toNat) (mb G n (A0 G n q / 2 ^ lv.toNat * 2 ^ lv.toNat)) (ldn G n lv (A0 G n q / 2 ^ lv.toNat) + 1) ∧
    dm = mvn G q (A0 G n q / 2 ^ lv.toNat * 2 ^ lv.toNat) (2 ^ lv.toNat) (mb G n (A0 G n q / 2 ^ lv.toNat * 2 ^ lv.toNat)) (ldn G n lv (A0 G n q / 2 ^ lv.toNat) + 1) (ldn G n lv (A0 G n q / 2 ^ lv.toNat)).toNat ∧
    SP2 = uI SP lv (SP lv + 1))
theorem A0_rg {G : Int → Int} {n q : Int} (hG : ∀ k : Int, 0 ≤ k → k < n → 0 ≤ G k ∧ G k ≤ 255) (hq : 0 ≤ q ∧ q ≤ n) : 0 ≤ A0 G n q ∧ A0 G n q ≤ 255 := by
  unfold A0
  by_cases h : q - 1 < 0
  · rw [show ma G n (q - 1) = -1 by unfold ma; rw [if_pos h], if_pos (by omega)]; omega
  · have := hG (q - 1) (by omega) (by omega)
    rw [← ma_in (G := G) (n := n) (v := q - 1) (by omega), if_neg (by omega)]
    exact this
theorem ins_fin {F F2 : Int → Int} {n p x : Int} (hp : p ≤ n) (h1 : ∀ k : Int, 0 ≤ k → k ≤ p → k < n → F2 k = F k) (h2 : ∀ k : Int, p < k → k ≤ n → F2 k = F (k - 1)) : ∀ k : Int, 0 ≤ k → k < n + 1 → uI F2 p x k = insF F p x k := by
  intro k h0 h3
  unfold uI insF
  rcases (show k < p ∨ k = p ∨ p < k by omega) with q | q | q
  · rw [if_neg (by omega), if_pos q, h1 k h0 (by omega) (by omega)]
  · rw [if_pos q, if_neg (by omega), if_pos q]
  · rw [if_neg (by omega), if_neg (by omega), if_neg (by omega), h2 k q (by omega)]
/-- a shelf that is spread out begins at the new folder's place or ahead of it, and ends there or behind -/
theorem bg_q {G : Int → Int} {n q lv : Int} (hn : 0 ≤ n ∧ n ≤ 60) (hG : ∀ k : Int, 0 ≤ k → k < n → 0 ≤ G k ∧ G k ≤ 255) (hs : SD G n) (hq : 0 ≤ q ∧ q ≤ n) (hlv : 0 ≤ lv ∧ lv ≤ 8) :
    mb G n (A0 G n q / 2 ^ lv.toNat * 2 ^ lv.toNat) ≤ q ∧ q ≤ mb G n (A0 G n q / 2 ^ lv.toNat * 2 ^ lv.toNat) + ldn G n lv (A0 G n q / 2 ^ lv.toNat) := by
  have har := A0_rg hG hq
  have hsb := sh_b har hlv
  have e1 : q = 0 ∧ A0 G n q = 0 ∨ 0 < q ∧ A0 G n q = G (q - 1) := by
    unfold A0
    by_cases h : q - 1 < 0
    · rw [show ma G n (q - 1) = -1 by unfold ma; rw [if_pos h], if_pos (by omega)]; left; exact ⟨by omega, rfl⟩
    · have := hG (q - 1) (by omega) (by omega)
      rw [← ma_in (G := G) (n := n) (v := q - 1) (by omega), if_neg (by omega)]; right; exact ⟨by omega, rfl⟩
  generalize hsh : A0 G n q / 2 ^ lv.toNat = sh at hsb ⊢
  obtain ⟨a1, a2, a3⟩ := mb_FI (G := G) (n := n) (sh * 2 ^ lv.toNat) hn.1 hs
  obtain ⟨b1, b2, b3⟩ := mb_FI (G := G) (n := n) ((sh + 1) * 2 ^ lv.toNat) hn.1 hs
  unfold ldn
  constructor
  · rcases (show mb G n (sh * 2 ^ lv.toNat) ≤ q ∨ q < mb G n (sh * 2 ^ lv.toNat) by omega) with h | h
    · exact h
    · have h1 := a2 q hq.1 h
      have h2 := hG q hq.1 (by omega)
      rcases e1 with ⟨e, e2⟩ | ⟨e, e2⟩
      · omega
      · have := hs (q - 1) q (by omega) (by omega) (by omega); omega
  · rcases (show q ≤ mb G n ((sh + 1) * 2 ^ lv.toNat) ∨ mb G n ((sh + 1) * 2 ^ lv.toNat) < q by omega) with h | h
    · omega
    · rcases e1 with ⟨e, e2⟩ | ⟨e, e2⟩
      · omega
      · have h1 := b3 (by omega)
        rcases (show mb G n ((sh + 1) * 2 ^ lv.toNat) = q - 1 ∨ mb G n ((sh + 1) * 2 ^ lv.toNat) < q - 1 by omega) with h2 | h2
        · rw [h2] at h1; omega
        · have := hs _ (q - 1) b1.1 h2 (by omega); omega
theorem sp_fin {G G2 : Int → Int} {n q lo w bg t i : Int} (hb : 0 ≤ bg ∧ bg ≤ q ∧ q < bg + t ∧ bg + t ≤ n + 1) (hi : i = t) (h : ∀ k : Int, 0 ≤ k → k < n + 1 → G2 k = if bg ≤ k ∧ k < bg + i then nm lo w t (k - bg) else insF G q lo k) : ∀ k : Int, 0 ≤ k → k < n + 1 → G2 k = spG G lo w bg t k := by
  intro k h0 h1
  rw [h k h0 h1]
  unfold spG insF
  subst hi
  rcases (show k < bg ∨ bg ≤ k ∧ k < bg + i ∨ bg + i ≤ k by omega) with z | z | z
  · rw [if_neg (by omega), if_pos (by omega), if_pos z]
  · rw [if_pos z, if_neg (by omega), if_pos z.2]
  · rw [if_neg (by omega), if_neg (by omega), if_neg (by omega), if_neg (by omega), if_neg (by omega)]
def plN (F : Int → Int) (x : Int) : Nat → Int
  | 0 => -1
  | k + 1 => if plN F x k = -1 then (if F (k : Int) = x then (k : Int) else -1) else plN F x k
/-- the first place of a folder in the row, or -1 -/
def pl (F : Int → Int) (n x : Int) : Int := plN F x n.toNat
theorem pl_PL {F : Int → Int} {n : Int} (hn : 0 ≤ n) (x : Int) : PL F n x (pl F n x) := by
  obtain ⟨m, rfl⟩ := Int.eq_ofNat_of_zero_le hn
  unfold pl
  rw [show ((m : Int)).toNat = m by omega]
  induction m with
  | zero => exact Or.inl ⟨rfl, fun k h0 h1 => by omega⟩
  | succ m ih =>
    have ih := ih (by omega)
    simp only [plN]
    generalize plN F x m = r at ih ⊢
    rcases ih with ⟨e, h⟩ | ⟨h1, h2, h3, h4⟩
    · rw [if_pos e]
      by_cases hx : F m = x
      · rw [if_pos hx]
        exact Or.inr ⟨by omega, by omega, hx, fun k h0 h1 => h k h0 h1⟩
      · rw [if_neg hx]
        refine Or.inl ⟨rfl, fun k h0 h1 => ?_⟩
        rcases (show k < m ∨ k = m by omega) with q | q
        · exact h k h0 q
        · rw [q]; exact hx
    · rw [if_neg (by omega)]
      exact Or.inr ⟨h1, by omega, h3, h4⟩
/-- the readers' folders and counts behind a day -/
def pdF (F : Int → Int) (n : Int) (RF : Int → Int) : Int → Int := fun k => if pl F n (RF k) = -1 then RF k else fa F n (pl F n (RF k) + 1)
def pdC (F : Int → Int) (n : Int) (RF RC : Int → Int) : Int → Int := fun k => if pl F n (RF k) = -1 then RC k else RC k + 1
theorem fa_rg {F : Int → Int} {n : Int} (hF : ∀ k : Int, 0 ≤ k → k < n → 0 ≤ F k ∧ F k < 200) (v : Int) : -1 ≤ fa F n v ∧ fa F n v < 200 := by
  unfold fa
  split
  · have := hF v (by omega) (by omega); omega
  · omega
theorem PL_x {F : Int → Int} {n x r : Int} (hF : ∀ k : Int, 0 ≤ k → k < n → 0 ≤ F k ∧ F k < 200) (h0 : 0 ≤ r) (h : PL F n x r) : 0 ≤ x ∧ x < 200 := by
  rcases h with ⟨h, -⟩ | ⟨h1, h2, h3, -⟩
  · omega
  · rw [← h3]; exact hF r h1 h2
end
section
set_option maxHeartbeats 4000000 in
set_option maxRecDepth 100000 in
theorem c_set (l : Launch) (D : va_G) (cI : ClassId) (base st : Nat) (Z : Nat → Nat) (x0 x1 x2 x5 x6 x7 : Nat) {n came MV : Int} {F G SP RF RC : Int → Int} (hn : 0 ≤ n ∧ n ≤ 60) (v : Int) (hv : 0 ≤ v ∧ v < n) (fo mk : Int) : mu_M l yX0_set wsX0_set ({ frames := 1, cells := 0, slots := 0, locals := 21 } : Room) [.ref x0, .int (iI (v)), .int (iI (fo)), .int (iI (mk))] (CP D cI base st Z x0 x1 x2 x5 x6 x7 n came MV F G SP RF RC) none ((fun H => CW D cI base x0 x1 x2 x5 x6 x7 (n) (came) (MV) (uI F v fo) (uI G v mk) (SP) (RF) (RC) H)) (mC x0 x1 x2 x5 x6 x7) := by
  refine mu_of (cc := cX0_set) (maxL := 4) (ret := none) (own := RX0) (by decide) rfl rfl (Nat.le_of_ble_eq_true rfl) ?_
  intro p e s m below meth c ls B hCP hl hS
  obtain ⟨hx, hb, hml, hr, hts, hown, hlocks⟩ := B
  obtain ⟨⟨hK, hZL, ⟨hstb, xs, hXL, hAL⟩, hTW⟩, f, g, sp, rf, rc, hAf, hAg, hAsp, hArf, hArc, hP, hDb⟩ := id hCP
  have hD := CW_mD hDb
  have hmb := mC_b hDb
  have hbl := CW_lt hCP.2
  have hSW0 := hCP.1
  have hl : lv_has ls 4 [(0, .ref x0), (1, .int (iI (v))), (2, .int (iI (fo))), (3, .int (iI (mk)))] := hl
  have hin : ∀ w ∈ u_ws RX0 TX0 8, w ∈ wsX0_set := by decide +kernel
  have q_folders := hts (.fieldLink RX0 9 "ShelfMarks" "folders" "[I") (by decide +kernel)
  have q_marks := hts (.fieldLink RX0 13 "ShelfMarks" "marks" "[I") (by decide +kernel)
  refine lv_aload_n hx hb dX0_set_0 rfl (lv_at hl 0 rfl) ?_
  refine lv_iload_n hx hb dX0_set_1 rfl (lv_at hl 1 rfl) ?_
  have hCP : CP D cI base st Z x0 x1 x2 x5 x6 x7 (n) (came) (MV) (F) (G) (SP) (RF) (RC) s s.heap := ⟨hSW0.behind hbl hmb hS, ⟨f, g, sp, rf, rc, hAf, hAg, hAsp, hArf, hArc, hP, hD.weaken (fun _ _ _ h => hmb _ h)⟩⟩
  refine pu_callV (v := 1) (As := [.int (iI (v))]) (rest := []) CP_mv ⟨hx, hb, hml, hown, hts⟩ (c_isPlace l D cI base st Z x0 x1 x2 x5 x6 x7 hn v (by omega) 1 (by unfold ip; rw [if_pos hv])) (cwV 1 hts gX0_set_X0_isPlace rfl rfl rfl (by decide +kernel) ⟨(Nat.le_of_ble_eq_true rfl), (Nat.le_of_ble_eq_true rfl)⟩) hCP (CP_rc hCP) rfl rfl hl.1 (Nat.le_of_ble_eq_true rfl) dX0_set_2 ⟨Nat.zero_le _, Nat.zero_le _⟩ ?_
  refine pv_if_eq (tgt := 22) hx hb dX0_set_5 (by decide) (by omega) (fun c_5 => ?_) (fun c_5 => ?_)
  · exact absurd c_5 (by omega)
  · -- 5f
    refine lv_aload_n hx hb dX0_set_8 rfl (lv_at hl 0 rfl) ?_
    refine va_get (D := D) (ci := 0) (v := .ref x1) (C := RX0) (T := TX0) (N := 8) hx hb hts hin hown hK hP 0 rfl rfl 0 (by decide) q_folders (fun _ h9 => h9) rfl dX0_set_9 ?_
    refine lv_iload_n hx hb dX0_set_12 rfl (lv_at hl 1 rfl) ?_
    refine lv_iload_n hx hb dX0_set_13 rfl (lv_at hl 2 rfl) ?_
    refine pv_iast (i := v) (v := fo) hx hb hK hP hD hS 1 0 rfl rfl (by omega) (by decide) dX0_set_14 (fun H locs hP hD hS => ?_)
    have hP : va_P D vwCl (W0 cI x0 x1 x2 x5 x6 x7 (n) (came) (MV) (upd f (v).toNat (iI (fo))) g sp rf rc) H := hP
    have hD : va_D (mC x0 x1 x2 x5 x6 x7) (W0 cI x0 x1 x2 x5 x6 x7 (n) (came) (MV) (upd f (v).toNat (iI (fo))) g sp rf rc) := hD
    have hAf := AR_up (k := v) (v := fo) hAf (by omega)
    generalize upd f (v).toNat (iI (fo)) = f at hP hD hAf
    refine lv_aload_n hx hb dX0_set_15 rfl (lv_at hl 0 rfl) ?_
    refine va_get (D := D) (ci := 0) (v := .ref x2) (C := RX0) (T := TX0) (N := 8) hx hb hts hin hown hK hP 0 rfl rfl 1 (by decide) q_marks (fun _ h9 => h9) rfl dX0_set_16 ?_
    refine lv_iload_n hx hb dX0_set_19 rfl (lv_at hl 1 rfl) ?_
    refine lv_iload_n hx hb dX0_set_20 rfl (lv_at hl 3 rfl) ?_
    refine pv_iast (i := v) (v := mk) hx hb hK hP hD hS 2 0 rfl rfl (by omega) (by decide) dX0_set_21 (fun H locs hP hD hS => ?_)
    have hP : va_P D vwCl (W0 cI x0 x1 x2 x5 x6 x7 (n) (came) (MV) f (upd g (v).toNat (iI (mk))) sp rf rc) H := hP
    have hD : va_D (mC x0 x1 x2 x5 x6 x7) (W0 cI x0 x1 x2 x5 x6 x7 (n) (came) (MV) f (upd g (v).toNat (iI (mk))) sp rf rc) := hD
    have hAg := AR_up (k := v) (v := mk) hAg (by omega)
    generalize upd g (v).toNat (iI (mk)) = g at hP hD hAg
    exact mu_vret hx hb hr hlocks hS dX0_set_22 ⟨f, g, sp, rf, rc, hAf, hAg, hAsp, hArf, hArc, hP, hD.weaken (fun _ _ _ h => hmb _ h)⟩
set_option maxHeartbeats 4000000 in
set_option maxRecDepth 100000 in
theorem c_insertAt (l : Launch) (D : va_G) (cI : ClassId) (base st : Nat) (Z : Nat → Nat) (x0 x1 x2 x5 x6 x7 : Nat) {n came MV : Int} {F G SP RF RC : Int → Int} (hn : 0 ≤ n ∧ n < 60) (q : Int) (hq : 0 ≤ q ∧ q ≤ n) (fo mk : Int) : mu_M l yX0_insertAt wsX0_insertAt ({ frames := 2, cells := 0, slots := 0, locals := 44 } : Room) [.ref x0, .int (iI (q)), .int (iI (fo)), .int (iI (mk))] (CP D cI base st Z x0 x1 x2 x5 x6 x7 n came MV F G SP RF RC) none ((fun H => CW D cI base x0 x1 x2 x5 x6 x7 (n + 1) (came) (MV) (insF F q fo) (insF G q mk) (SP) (RF) (RC) H)) (mC x0 x1 x2 x5 x6 x7) := by
  refine mu_of (cc := cX0_insertAt) (maxL := 5) (ret := none) (own := RX0) (by decide) rfl rfl (Nat.le_of_ble_eq_true rfl) ?_
  intro p e s m below meth c ls B hCP hl hS
  obtain ⟨hx, hb, hml, hr, hts, hown, hlocks⟩ := B
  obtain ⟨⟨hK, hZL, ⟨hstb, xs, hXL, hAL⟩, hTW⟩, f, g, sp, rf, rc, hAf, hAg, hAsp, hArf, hArc, hP, hDb⟩ := id hCP
  have hD := CW_mD hDb
  have hmb := mC_b hDb
  have hbl := CW_lt hCP.2
  have hSW0 := hCP.1
  have hl : lv_has ls 5 [(0, .ref x0), (1, .int (iI (q))), (2, .int (iI (fo))), (3, .int (iI (mk)))] := hl
  have hin : ∀ w ∈ u_ws RX0 TX0 8, w ∈ wsX0_insertAt := by decide +kernel
  have q_count := hts (.fieldLink RX0 53 "ShelfMarks" "count" "I") (by decide +kernel)
  refine lv_iload_n hx hb dX0_insertAt_0 rfl (lv_at hl 1 rfl) ?_
  refine pv_if_lt (tgt := 21) hx hb dX0_insertAt_1 (by decide) (by omega) (fun c_1 => ?_) (fun c_1 => ?_)
  · exfalso; omega
  · -- 1f
    refine lv_iload_n hx hb dX0_insertAt_4 rfl (lv_at hl 1 rfl) ?_
    refine lv_aload_n hx hb dX0_insertAt_5 rfl (lv_at hl 0 rfl) ?_
    refine va_get (D := D) (ci := 0) (v := .int (iI (n))) (C := RX0) (T := TX0) (N := 8) hx hb hts hin hown hK hP 0 rfl rfl 2 (by decide) q_count (fun _ h9 => h9) rfl dX0_insertAt_6 ?_
    refine pv_icmp_gt (tgt := 21) hx hb dX0_insertAt_9 (by decide) (by omega) (fun c_9 => ?_) (fun c_9 => ?_)
    · exfalso; omega
    · -- 9f
      refine lv_aload_n hx hb dX0_insertAt_12 rfl (lv_at hl 0 rfl) ?_
      refine va_get (D := D) (ci := 0) (v := .int (iI (n))) (C := RX0) (T := TX0) (N := 8) hx hb hts hin hown hK hP 0 rfl rfl 2 (by decide) q_count (fun _ h9 => h9) rfl dX0_insertAt_13 ?_
      refine pv_bipush hx hb dX0_insertAt_16 (by decide +kernel) ?_
      refine pv_icmp_lt (tgt := 22) hx hb dX0_insertAt_18 (by decide) (by omega) (fun c_18 => ?_) (fun c_18 => ?_)
      · -- 18t
        refine lv_aload_n hx hb dX0_insertAt_22 rfl (lv_at hl 0 rfl) ?_
        refine lv_dup hx hb dX0_insertAt_23 rfl ?_
        refine va_get (D := D) (ci := 0) (v := .int (iI (n))) (C := RX0) (T := TX0) (N := 8) hx hb hts hin hown hK hP 0 rfl rfl 2 (by decide) q_count (fun _ h9 => h9) rfl dX0_insertAt_24 ?_
        refine pv_iconst hx hb dX0_insertAt_27 ?_
        refine pv_iadd hx hb dX0_insertAt_28 ?_
        refine va_put (D := D) (ci := 0) (v := .int (iI ((n) + (1)))) (ty := .int) (C := RX0) (T := TX0) (N := 8) hx hb hts hin tyX0 tyX0_ok nmX0 hown hK hP hD hS 0 rfl rfl 2 (by decide) q_count (fun _ h9 => h9) rfl (by decide +kernel) rfl rfl (Nat.le_of_ble_eq_true rfl) dX0_insertAt_29 (fun H locs hP hD hS => ?_)
        have hP : va_P D vwCl (W0 cI x0 x1 x2 x5 x6 x7 ((n) + (1)) (came) (MV) f g sp rf rc) H := hP
        have hD : va_D (mC x0 x1 x2 x5 x6 x7) (W0 cI x0 x1 x2 x5 x6 x7 ((n) + (1)) (came) (MV) f g sp rf rc) := hD
        obtain ⟨F1, hAf9, hF1⟩ := AR_all hAf
        obtain ⟨G1, hAg9, hG1⟩ := AR_all hAg
        have hAf := hAf9 (n + 1)
        have hAg := hAg9 (n + 1)
        refine lv_aload_n hx hb dX0_insertAt_32 rfl (lv_at hl 0 rfl) ?_
        refine va_get (D := D) (ci := 0) (v := .int (iI ((n) + (1)))) (C := RX0) (T := TX0) (N := 8) hx hb hts hin hown hK hP 0 rfl rfl 2 (by decide) q_count (fun _ h9 => h9) rfl dX0_insertAt_33 ?_
        refine pv_iconst hx hb dX0_insertAt_36 ?_
        refine pv_isub hx hb dX0_insertAt_37 ?_
        rw [show iI (((n) + (1)) - (1)) = iI (n) from congrArg iI ((by omega))]
        refine lv_istore (lv' := [(4, .int (iI (n))), (0, .ref x0), (1, .int (iI (q))), (2, .int (iI (fo))), (3, .int (iI (mk)))]) hx hb dX0_insertAt_38 hl (by decide) rfl (fun ls hl => ?_)
        have hloop40 : ∀ (fuel : Nat) (to : Int) (F2 : Int → Int) (G2 : Int → Int) (H : Heap) (locs : List Loc) (ls : Array Slot), (to - q) < fuel → (q ≤ to ∧ to ≤ n) → (∀ k : Int, 0 ≤ k → k ≤ to → k < n → F2 k = F k ∧ G2 k = G k) → (∀ k : Int, to < k → k ≤ n → F2 k = F (k - 1) ∧ G2 k = G (k - 1)) → CW D cI base x0 x1 x2 x5 x6 x7 (n + 1) (came) (MV) (F2) (G2) (SP) (RF) (RC) H → va_S (mC x0 x1 x2 x5 x6 x7) s.heap H locs → lv_has ls 5 [(0, .ref x0), (1, .int (iI (q))), (2, .int (iI (fo))), (3, .int (iI (mk))), (4, .int (iI (to)))] → W p l e ({ frames := 2, cells := 0, slots := 0, locals := 44 } : Room) s m ([.ref x0, .int (iI (q)), .int (iI (fo)), .int (iI (mk))] : List Value).toArray below meth c H locs 0 0 (MQ below (mu_Q none ((fun H => CW D cI base x0 x1 x2 x5 x6 x7 (n + 1) (came) (MV) (insF F q fo) (insF G q mk) (SP) (RF) (RC) H)) (mC x0 x1 x2 x5 x6 x7)) ([.ref x0, .int (iI (q)), .int (iI (fo)), .int (iI (mk))] : List Value).toArray s 0 0 (mC x0 x1 x2 x5 x6 x7)) (F0 m 40 ls []) := by
          intro fuel
          induction fuel with
          | zero => intro to F2 G2 H locs ls hfu ht hFa hFb hC9 hS hl; exfalso; omega
          | succ fuel ih =>
            intro to F2 G2 H locs ls hfu ht hFa hFb hC9 hS hl
            obtain ⟨f, g, sp, rf, rc, hAf, hAg, hAsp, hArf, hArc, hP, hDb⟩ := hC9
            have hD := CW_mD hDb
            refine lv_iload hx hb dX0_insertAt_40 (lv_at hl 4 rfl) ?_
            refine lv_iload_n hx hb dX0_insertAt_42 rfl (lv_at hl 1 rfl) ?_
            refine pv_icmp_le (tgt := 74) hx hb dX0_insertAt_43 (by decide) (by omega) (fun c_43 => ?_) (fun c_43 => ?_)
            · -- 43t
              refine lv_aload_n hx hb dX0_insertAt_74 rfl (lv_at hl 0 rfl) ?_
              refine lv_iload_n hx hb dX0_insertAt_75 rfl (lv_at hl 1 rfl) ?_
              refine lv_iload_n hx hb dX0_insertAt_76 rfl (lv_at hl 2 rfl) ?_
              refine lv_iload_n hx hb dX0_insertAt_77 rfl (lv_at hl 3 rfl) ?_
              have hCP : CP D cI base st Z x0 x1 x2 x5 x6 x7 (n + 1) (came) (MV) (F2) (G2) (SP) (RF) (RC) s H := ⟨hSW0.behind hbl hmb hS, ⟨f, g, sp, rf, rc, hAf, hAg, hAsp, hArf, hArc, hP, hD.weaken (fun _ _ _ h => hmb _ h)⟩⟩
              refine mu_callV (As := [.int (iI (q)), .int (iI (fo)), .int (iI (mk))]) (rest := []) CP_mv ⟨hx, hb, hml, hown, hts⟩ (c_set l D cI base st Z x0 x1 x2 x5 x6 x7 (by omega) q (by omega) fo mk) (cwV 3 hts gX0_insertAt_X0_set rfl rfl rfl (by decide +kernel) ⟨(Nat.le_of_ble_eq_true rfl), (Nat.le_of_ble_eq_true rfl)⟩) hCP (CP_rc hCP) rfl rfl hl.1 (Nat.le_of_ble_eq_true rfl) dX0_insertAt_78 ⟨Nat.zero_le _, Nat.zero_le _⟩ hS (fun _ h => h) (fun H locs hC9 hz9 hk9 hS => ?_)
              have hC9 : CW D cI base x0 x1 x2 x5 x6 x7 (n + 1) (came) (MV) (uI F2 q fo) (uI G2 q mk) (SP) (RF) (RC) H := hC9
              obtain ⟨f, g, sp, rf, rc, hAf, hAg, hAsp, hArf, hArc, hP, hDb⟩ := hC9
              have hD := CW_mD hDb
              exact mu_vret hx hb hr hlocks hS dX0_insertAt_81 ⟨f, g, sp, rf, rc, AR_to hAf (Int.le_refl _) (ins_fin hq.2 (fun k h0 h1 h2 => (hFa k h0 (by omega) h2).1) (fun k h0 h1 => (hFb k (by omega) h1).1)), AR_to hAg (Int.le_refl _) (ins_fin hq.2 (fun k h0 h1 h2 => (hFa k h0 (by omega) h2).2) (fun k h0 h1 => (hFb k (by omega) h1).2)), hAsp, hArf, hArc, hP, hD.weaken (fun _ _ _ h => hmb _ h)⟩
            · -- 43f
              refine lv_aload_n hx hb dX0_insertAt_46 rfl (lv_at hl 0 rfl) ?_
              refine lv_iload hx hb dX0_insertAt_47 (lv_at hl 4 rfl) ?_
              refine lv_aload_n hx hb dX0_insertAt_49 rfl (lv_at hl 0 rfl) ?_
              refine lv_iload hx hb dX0_insertAt_50 (lv_at hl 4 rfl) ?_
              refine pv_iconst hx hb dX0_insertAt_52 ?_
              refine pv_isub hx hb dX0_insertAt_53 ?_
              have hCP : CP D cI base st Z x0 x1 x2 x5 x6 x7 (n + 1) (came) (MV) (F2) (G2) (SP) (RF) (RC) s H := ⟨hSW0.behind hbl hmb hS, ⟨f, g, sp, rf, rc, hAf, hAg, hAsp, hArf, hArc, hP, hD.weaken (fun _ _ _ h => hmb _ h)⟩⟩
              refine pu_callV (v := F (to - 1)) (As := [.int (iI ((to) - (1)))]) (rest := [.int (iI (to)), .ref x0]) CP_mv ⟨hx, hb, hml, hown, hts⟩ (c_folderAt l D cI base st Z x0 x1 x2 x5 x6 x7 (by omega) (to - 1) (by omega) _ (by unfold fa; rw [if_pos (by omega)]; exact (hFa (to - 1) (by omega) (by omega) (by omega)).1.symm)) (cwV 1 hts gX0_insertAt_X0_folderAt rfl rfl rfl (by decide +kernel) ⟨(Nat.le_of_ble_eq_true rfl), (Nat.le_of_ble_eq_true rfl)⟩) hCP (CP_rc hCP) rfl rfl hl.1 (Nat.le_of_ble_eq_true rfl) dX0_insertAt_54 ⟨Nat.zero_le _, Nat.zero_le _⟩ ?_
              refine lv_aload_n hx hb dX0_insertAt_57 rfl (lv_at hl 0 rfl) ?_
              refine lv_iload hx hb dX0_insertAt_58 (lv_at hl 4 rfl) ?_
              refine pv_iconst hx hb dX0_insertAt_60 ?_
              refine pv_isub hx hb dX0_insertAt_61 ?_
              have hCP : CP D cI base st Z x0 x1 x2 x5 x6 x7 (n + 1) (came) (MV) (F2) (G2) (SP) (RF) (RC) s H := ⟨hSW0.behind hbl hmb hS, ⟨f, g, sp, rf, rc, hAf, hAg, hAsp, hArf, hArc, hP, hD.weaken (fun _ _ _ h => hmb _ h)⟩⟩
              refine pu_callV (v := G (to - 1)) (As := [.int (iI ((to) - (1)))]) (rest := [.int (iI (F (to - 1))), .int (iI (to)), .ref x0]) CP_mv ⟨hx, hb, hml, hown, hts⟩ (c_markAt l D cI base st Z x0 x1 x2 x5 x6 x7 (by omega) (to - 1) (by omega) _ ((hFa (to - 1) (by omega) (by omega) (by omega)).2.symm.trans (ma_in (by omega)))) (cwV 1 hts gX0_insertAt_X0_markAt rfl rfl rfl (by decide +kernel) ⟨(Nat.le_of_ble_eq_true rfl), (Nat.le_of_ble_eq_true rfl)⟩) hCP (CP_rc hCP) rfl rfl hl.1 (Nat.le_of_ble_eq_true rfl) dX0_insertAt_62 ⟨Nat.zero_le _, Nat.zero_le _⟩ ?_
              have hCP : CP D cI base st Z x0 x1 x2 x5 x6 x7 (n + 1) (came) (MV) (F2) (G2) (SP) (RF) (RC) s H := ⟨hSW0.behind hbl hmb hS, ⟨f, g, sp, rf, rc, hAf, hAg, hAsp, hArf, hArc, hP, hD.weaken (fun _ _ _ h => hmb _ h)⟩⟩
              refine mu_callV (As := [.int (iI (to)), .int (iI (F (to - 1))), .int (iI (G (to - 1)))]) (rest := []) CP_mv ⟨hx, hb, hml, hown, hts⟩ (c_set l D cI base st Z x0 x1 x2 x5 x6 x7 (by omega) to (by omega) (F (to - 1)) (G (to - 1))) (cwV 3 hts gX0_insertAt_X0_set rfl rfl rfl (by decide +kernel) ⟨(Nat.le_of_ble_eq_true rfl), (Nat.le_of_ble_eq_true rfl)⟩) hCP (CP_rc hCP) rfl rfl hl.1 (Nat.le_of_ble_eq_true rfl) dX0_insertAt_65 ⟨Nat.zero_le _, Nat.zero_le _⟩ hS (fun _ h => h) (fun H locs hC9 hz9 hk9 hS => ?_)
              have hC9 : CW D cI base x0 x1 x2 x5 x6 x7 (n + 1) (came) (MV) (uI F2 to (F (to - 1))) (uI G2 to (G (to - 1))) (SP) (RF) (RC) H := hC9
              obtain ⟨f, g, sp, rf, rc, hAf, hAg, hAsp, hArf, hArc, hP, hDb⟩ := hC9
              have hD := CW_mD hDb
              refine pv_iinc (lv' := [(4, .int (iI (to + (-1)))), (0, .ref x0), (1, .int (iI (q))), (2, .int (iI (fo))), (3, .int (iI (mk)))]) hx hb dX0_insertAt_68 hl (k := 4) rfl (by decide) rfl (fun ls hl => ?_)
              refine lv_goto (tgt := 40) hx hb dX0_insertAt_71 (by decide) ?_
              exact ih (to + (-1)) (_) (_) _ _ ls (by omega) (by omega) (fun k h0 h1 h2 => by unfold uI; rw [if_neg (by omega), if_neg (by omega)]; exact hFa k h0 (by omega) h2) (fun k h0 h1 => by unfold uI; rcases (show k = to ∨ to < k by omega) with z | z; (rw [if_pos z, if_pos z, z]; exact ⟨rfl, rfl⟩); (rw [if_neg (by omega), if_neg (by omega)]; exact hFb k z h1)) ⟨f, g, sp, rf, rc, hAf, hAg, hAsp, hArf, hArc, hP, hD.weaken (fun _ _ _ h => hmb _ h)⟩ hS (lv_sub hl [1, 2, 3, 4, 0] rfl)
        exact hloop40 ((n : Int).toNat + 1) (n) (F1) (G1) _ _ ls (by omega) (by omega) (fun k h0 h1 h2 => ⟨hF1 k h0 h2, hG1 k h0 h2⟩) (fun k h0 h1 => absurd h1 (by omega)) ⟨f, g, sp, rf, rc, hAf, hAg, hAsp, hArf, hArc, hP, hD.weaken (fun _ _ _ h => hmb _ h)⟩ hS (lv_sub hl [1, 2, 3, 4, 0] rfl)
      · exfalso; omega
set_option maxHeartbeats 4000000 in
set_option maxRecDepth 100000 in
theorem c_removeAt (l : Launch) (D : va_G) (cI : ClassId) (base st : Nat) (Z : Nat → Nat) (x0 x1 x2 x5 x6 x7 : Nat) {n came MV : Int} {F G SP RF RC : Int → Int} (hn : 0 ≤ n ∧ n ≤ 60) (q : Int) (hq : 0 ≤ q ∧ q < n) : mu_M l yX0_removeAt wsX0_removeAt ({ frames := 2, cells := 0, slots := 0, locals := 44 } : Room) [.ref x0, .int (iI (q))] (CP D cI base st Z x0 x1 x2 x5 x6 x7 n came MV F G SP RF RC) none ((fun H => CW D cI base x0 x1 x2 x5 x6 x7 (n - 1) (came) (MV) (remF F q) (remF G q) (SP) (RF) (RC) H)) (mC x0 x1 x2 x5 x6 x7) := by
  refine mu_of (cc := cX0_removeAt) (maxL := 3) (ret := none) (own := RX0) (by decide) rfl rfl (Nat.le_of_ble_eq_true rfl) ?_
  intro p e s m below meth c ls B hCP hl hS
  obtain ⟨hx, hb, hml, hr, hts, hown, hlocks⟩ := B
  obtain ⟨⟨hK, hZL, ⟨hstb, xs, hXL, hAL⟩, hTW⟩, f, g, sp, rf, rc, hAf, hAg, hAsp, hArf, hArc, hP, hDb⟩ := id hCP
  have hD := CW_mD hDb
  have hmb := mC_b hDb
  have hbl := CW_lt hCP.2
  have hSW0 := hCP.1
  have hl : lv_has ls 3 [(0, .ref x0), (1, .int (iI (q)))] := hl
  have hin : ∀ w ∈ u_ws RX0 TX0 8, w ∈ wsX0_removeAt := by decide +kernel
  have q_count := hts (.fieldLink RX0 53 "ShelfMarks" "count" "I") (by decide +kernel)
  refine lv_aload_n hx hb dX0_removeAt_0 rfl (lv_at hl 0 rfl) ?_
  refine lv_iload_n hx hb dX0_removeAt_1 rfl (lv_at hl 1 rfl) ?_
  have hCP : CP D cI base st Z x0 x1 x2 x5 x6 x7 (n) (came) (MV) (F) (G) (SP) (RF) (RC) s s.heap := ⟨hSW0.behind hbl hmb hS, ⟨f, g, sp, rf, rc, hAf, hAg, hAsp, hArf, hArc, hP, hD.weaken (fun _ _ _ h => hmb _ h)⟩⟩
  refine pu_callV (v := 1) (As := [.int (iI (q))]) (rest := []) CP_mv ⟨hx, hb, hml, hown, hts⟩ (c_isPlace l D cI base st Z x0 x1 x2 x5 x6 x7 hn q (by omega) 1 (by unfold ip; rw [if_pos hq])) (cwV 1 hts gX0_removeAt_X0_isPlace rfl rfl rfl (by decide +kernel) ⟨(Nat.le_of_ble_eq_true rfl), (Nat.le_of_ble_eq_true rfl)⟩) hCP (CP_rc hCP) rfl rfl hl.1 (Nat.le_of_ble_eq_true rfl) dX0_removeAt_2 ⟨Nat.zero_le _, Nat.zero_le _⟩ ?_
  refine pv_if_ne (tgt := 9) hx hb dX0_removeAt_5 (by decide) (by omega) (fun c_5 => ?_) (fun c_5 => ?_)
  · -- 5t
    refine lv_iload_n hx hb dX0_removeAt_9 rfl (lv_at hl 1 rfl) ?_
    refine lv_istore_n (lv' := [(2, .int (iI (q))), (0, .ref x0), (1, .int (iI (q)))]) hx hb dX0_removeAt_10 rfl hl (by decide) rfl (fun ls hl => ?_)
    have hloop11 : ∀ (fuel : Nat) (i : Int) (F2 : Int → Int) (G2 : Int → Int) (H : Heap) (locs : List Loc) (ls : Array Slot), (n - i) < fuel → (q ≤ i ∧ i < n) → (∀ k : Int, 0 ≤ k → k < i → F2 k = remF F q k ∧ G2 k = remF G q k) → (∀ k : Int, i ≤ k → k < n → F2 k = F k ∧ G2 k = G k) → CW D cI base x0 x1 x2 x5 x6 x7 (n) (came) (MV) (F2) (G2) (SP) (RF) (RC) H → va_S (mC x0 x1 x2 x5 x6 x7) s.heap H locs → lv_has ls 3 [(0, .ref x0), (1, .int (iI (q))), (2, .int (iI (i)))] → W p l e ({ frames := 2, cells := 0, slots := 0, locals := 44 } : Room) s m ([.ref x0, .int (iI (q))] : List Value).toArray below meth c H locs 0 0 (MQ below (mu_Q none ((fun H => CW D cI base x0 x1 x2 x5 x6 x7 (n - 1) (came) (MV) (remF F q) (remF G q) (SP) (RF) (RC) H)) (mC x0 x1 x2 x5 x6 x7)) ([.ref x0, .int (iI (q))] : List Value).toArray s 0 0 (mC x0 x1 x2 x5 x6 x7)) (F0 m 11 ls []) := by
      intro fuel
      induction fuel with
      | zero => intro i F2 G2 H locs ls hfu hi hFa hFb hC9 hS hl; exfalso; omega
      | succ fuel ih =>
        intro i F2 G2 H locs ls hfu hi hFa hFb hC9 hS hl
        obtain ⟨f, g, sp, rf, rc, hAf, hAg, hAsp, hArf, hArc, hP, hDb⟩ := hC9
        have hD := CW_mD hDb
        refine lv_iload_n hx hb dX0_removeAt_11 rfl (lv_at hl 2 rfl) ?_
        refine lv_aload_n hx hb dX0_removeAt_12 rfl (lv_at hl 0 rfl) ?_
        refine va_get (D := D) (ci := 0) (v := .int (iI (n))) (C := RX0) (T := TX0) (N := 8) hx hb hts hin hown hK hP 0 rfl rfl 2 (by decide) q_count (fun _ h9 => h9) rfl dX0_removeAt_13 ?_
        refine pv_iconst hx hb dX0_removeAt_16 ?_
        refine pv_isub hx hb dX0_removeAt_17 ?_
        refine pv_icmp_ge (tgt := 46) hx hb dX0_removeAt_18 (by decide) (by omega) (fun c_18 => ?_) (fun c_18 => ?_)
        · -- 18t
          refine lv_aload_n hx hb dX0_removeAt_46 rfl (lv_at hl 0 rfl) ?_
          refine lv_dup hx hb dX0_removeAt_47 rfl ?_
          refine va_get (D := D) (ci := 0) (v := .int (iI (n))) (C := RX0) (T := TX0) (N := 8) hx hb hts hin hown hK hP 0 rfl rfl 2 (by decide) q_count (fun _ h9 => h9) rfl dX0_removeAt_48 ?_
          refine pv_iconst hx hb dX0_removeAt_51 ?_
          refine pv_isub hx hb dX0_removeAt_52 ?_
          refine va_put (D := D) (ci := 0) (v := .int (iI ((n) - (1)))) (ty := .int) (C := RX0) (T := TX0) (N := 8) hx hb hts hin tyX0 tyX0_ok nmX0 hown hK hP hD hS 0 rfl rfl 2 (by decide) q_count (fun _ h9 => h9) rfl (by decide +kernel) rfl rfl (Nat.le_of_ble_eq_true rfl) dX0_removeAt_53 (fun H locs hP hD hS => ?_)
          have hP : va_P D vwCl (W0 cI x0 x1 x2 x5 x6 x7 ((n) - (1)) (came) (MV) f g sp rf rc) H := hP
          have hD : va_D (mC x0 x1 x2 x5 x6 x7) (W0 cI x0 x1 x2 x5 x6 x7 ((n) - (1)) (came) (MV) f g sp rf rc) := hD
          exact mu_vret hx hb hr hlocks hS dX0_removeAt_56 ⟨f, g, sp, rf, rc, AR_to hAf (by omega) (fun k h0 h1 => (hFa k h0 (by omega)).1), AR_to hAg (by omega) (fun k h0 h1 => (hFa k h0 (by omega)).2), hAsp, hArf, hArc, hP, hD.weaken (fun _ _ _ h => hmb _ h)⟩
        · -- 18f
          refine lv_aload_n hx hb dX0_removeAt_21 rfl (lv_at hl 0 rfl) ?_
          refine lv_iload_n hx hb dX0_removeAt_22 rfl (lv_at hl 2 rfl) ?_
          refine lv_aload_n hx hb dX0_removeAt_23 rfl (lv_at hl 0 rfl) ?_
          refine lv_iload_n hx hb dX0_removeAt_24 rfl (lv_at hl 2 rfl) ?_
          refine pv_iconst hx hb dX0_removeAt_25 ?_
          refine pv_iadd hx hb dX0_removeAt_26 ?_
          have hCP : CP D cI base st Z x0 x1 x2 x5 x6 x7 (n) (came) (MV) (F2) (G2) (SP) (RF) (RC) s H := ⟨hSW0.behind hbl hmb hS, ⟨f, g, sp, rf, rc, hAf, hAg, hAsp, hArf, hArc, hP, hD.weaken (fun _ _ _ h => hmb _ h)⟩⟩
          refine pu_callV (v := F (i + 1)) (As := [.int (iI ((i) + (1)))]) (rest := [.int (iI (i)), .ref x0]) CP_mv ⟨hx, hb, hml, hown, hts⟩ (c_folderAt l D cI base st Z x0 x1 x2 x5 x6 x7 hn (i + 1) (by omega) _ (by unfold fa; rw [if_pos (by omega)]; exact (hFb (i + 1) (by omega) (by omega)).1.symm)) (cwV 1 hts gX0_removeAt_X0_folderAt rfl rfl rfl (by decide +kernel) ⟨(Nat.le_of_ble_eq_true rfl), (Nat.le_of_ble_eq_true rfl)⟩) hCP (CP_rc hCP) rfl rfl hl.1 (Nat.le_of_ble_eq_true rfl) dX0_removeAt_27 ⟨Nat.zero_le _, Nat.zero_le _⟩ ?_
          refine lv_aload_n hx hb dX0_removeAt_30 rfl (lv_at hl 0 rfl) ?_
          refine lv_iload_n hx hb dX0_removeAt_31 rfl (lv_at hl 2 rfl) ?_
          refine pv_iconst hx hb dX0_removeAt_32 ?_
          refine pv_iadd hx hb dX0_removeAt_33 ?_
          have hCP : CP D cI base st Z x0 x1 x2 x5 x6 x7 (n) (came) (MV) (F2) (G2) (SP) (RF) (RC) s H := ⟨hSW0.behind hbl hmb hS, ⟨f, g, sp, rf, rc, hAf, hAg, hAsp, hArf, hArc, hP, hD.weaken (fun _ _ _ h => hmb _ h)⟩⟩
          refine pu_callV (v := G (i + 1)) (As := [.int (iI ((i) + (1)))]) (rest := [.int (iI (F (i + 1))), .int (iI (i)), .ref x0]) CP_mv ⟨hx, hb, hml, hown, hts⟩ (c_markAt l D cI base st Z x0 x1 x2 x5 x6 x7 hn (i + 1) (by omega) _ ((hFb (i + 1) (by omega) (by omega)).2.symm.trans (ma_in (by omega)))) (cwV 1 hts gX0_removeAt_X0_markAt rfl rfl rfl (by decide +kernel) ⟨(Nat.le_of_ble_eq_true rfl), (Nat.le_of_ble_eq_true rfl)⟩) hCP (CP_rc hCP) rfl rfl hl.1 (Nat.le_of_ble_eq_true rfl) dX0_removeAt_34 ⟨Nat.zero_le _, Nat.zero_le _⟩ ?_
          have hCP : CP D cI base st Z x0 x1 x2 x5 x6 x7 (n) (came) (MV) (F2) (G2) (SP) (RF) (RC) s H := ⟨hSW0.behind hbl hmb hS, ⟨f, g, sp, rf, rc, hAf, hAg, hAsp, hArf, hArc, hP, hD.weaken (fun _ _ _ h => hmb _ h)⟩⟩
          refine mu_callV (As := [.int (iI (i)), .int (iI (F (i + 1))), .int (iI (G (i + 1)))]) (rest := []) CP_mv ⟨hx, hb, hml, hown, hts⟩ (c_set l D cI base st Z x0 x1 x2 x5 x6 x7 hn i (by omega) (F (i + 1)) (G (i + 1))) (cwV 3 hts gX0_removeAt_X0_set rfl rfl rfl (by decide +kernel) ⟨(Nat.le_of_ble_eq_true rfl), (Nat.le_of_ble_eq_true rfl)⟩) hCP (CP_rc hCP) rfl rfl hl.1 (Nat.le_of_ble_eq_true rfl) dX0_removeAt_37 ⟨Nat.zero_le _, Nat.zero_le _⟩ hS (fun _ h => h) (fun H locs hC9 hz9 hk9 hS => ?_)
          have hC9 : CW D cI base x0 x1 x2 x5 x6 x7 (n) (came) (MV) (uI F2 i (F (i + 1))) (uI G2 i (G (i + 1))) (SP) (RF) (RC) H := hC9
          obtain ⟨f, g, sp, rf, rc, hAf, hAg, hAsp, hArf, hArc, hP, hDb⟩ := hC9
          have hD := CW_mD hDb
          refine pv_iinc (lv' := [(2, .int (iI (i + 1))), (0, .ref x0), (1, .int (iI (q)))]) hx hb dX0_removeAt_40 hl (k := 2) rfl (by decide) rfl (fun ls hl => ?_)
          refine lv_goto (tgt := 11) hx hb dX0_removeAt_43 (by decide) ?_
          exact ih (i + 1) (_) (_) _ _ ls (by omega) (by omega) (fun k h0 h1 => by unfold uI; rcases (show k = i ∨ k < i by omega) with z | z; (rw [if_pos z, if_pos z, z]; unfold remF; rw [if_neg (by omega), if_neg (by omega)]; exact ⟨rfl, rfl⟩); (rw [if_neg (by omega), if_neg (by omega)]; exact hFa k h0 z)) (fun k h0 h1 => by unfold uI; rw [if_neg (by omega), if_neg (by omega)]; exact hFb k (by omega) h1) ⟨f, g, sp, rf, rc, hAf, hAg, hAsp, hArf, hArc, hP, hD.weaken (fun _ _ _ h => hmb _ h)⟩ hS (lv_sub hl [1, 2, 0] rfl)
    exact hloop11 ((n : Int).toNat + 1) (q) (F) (G) _ _ ls (by omega) (by omega) (fun k h0 h1 => by unfold remF; rw [if_pos h1, if_pos h1]; exact ⟨rfl, rfl⟩) (fun k h0 h1 => ⟨rfl, rfl⟩) ⟨f, g, sp, rf, rc, hAf, hAg, hAsp, hArf, hArc, hP, hD.weaken (fun _ _ _ h => hmb _ h)⟩ hS (lv_sub hl [1, 2, 0] rfl)
  · exact absurd c_5 (by omega)
set_option maxHeartbeats 4000000 in
set_option maxRecDepth 100000 in
theorem c_nextNumber (l : Launch) (D : va_G) (cI : ClassId) (base st : Nat) (Z : Nat → Nat) (x0 x1 x2 x5 x6 x7 : Nat) {n came MV : Int} {F G SP RF RC : Int → Int}  : mu_M l yX0_nextNumber wsX0_nextNumber ({ frames := 0, cells := 0, slots := 0, locals := 0 } : Room) [.ref x0] (CP D cI base st Z x0 x1 x2 x5 x6 x7 n came MV F G SP RF RC) (some (.int (iI came))) ((fun H => CW D cI base x0 x1 x2 x5 x6 x7 (n) (came + 1) (MV) (F) (G) (SP) (RF) (RC) H)) (mC x0 x1 x2 x5 x6 x7) := by
  refine mu_of (cc := cX0_nextNumber) (maxL := 2) (ret := (some .int)) (own := RX0) (by decide) rfl rfl (Nat.le_of_ble_eq_true rfl) ?_
  intro p e s m below meth c ls B hCP hl hS
  obtain ⟨hx, hb, hml, hr, hts, hown, hlocks⟩ := B
  obtain ⟨⟨hK, hZL, ⟨hstb, xs, hXL, hAL⟩, hTW⟩, f, g, sp, rf, rc, hAf, hAg, hAsp, hArf, hArc, hP, hDb⟩ := id hCP
  have hD := CW_mD hDb
  have hmb := mC_b hDb
  have hbl := CW_lt hCP.2
  have hSW0 := hCP.1
  have hl : lv_has ls 2 [(0, .ref x0)] := hl
  have hin : ∀ w ∈ u_ws RX0 TX0 8, w ∈ wsX0_nextNumber := by decide +kernel
  have q_came := hts (.fieldLink RX0 106 "ShelfMarks" "came" "I") (by decide +kernel)
  refine lv_aload_n hx hb dX0_nextNumber_0 rfl (lv_at hl 0 rfl) ?_
  refine va_get (D := D) (ci := 0) (v := .int (iI (came))) (C := RX0) (T := TX0) (N := 8) hx hb hts hin hown hK hP 0 rfl rfl 3 (by decide) q_came (fun _ h9 => h9) rfl dX0_nextNumber_1 ?_
  refine lv_istore_n (lv' := [(1, .int (iI (came))), (0, .ref x0)]) hx hb dX0_nextNumber_4 rfl hl (by decide) rfl (fun ls hl => ?_)
  refine lv_aload_n hx hb dX0_nextNumber_5 rfl (lv_at hl 1 rfl) ?_
  refine lv_dup hx hb dX0_nextNumber_6 rfl ?_
  refine va_get (D := D) (ci := 0) (v := .int (iI (came))) (C := RX0) (T := TX0) (N := 8) hx hb hts hin hown hK hP 0 rfl rfl 3 (by decide) q_came (fun _ h9 => h9) rfl dX0_nextNumber_7 ?_
  refine pv_iconst hx hb dX0_nextNumber_10 ?_
  refine pv_iadd hx hb dX0_nextNumber_11 ?_
  refine va_put (D := D) (ci := 0) (v := .int (iI ((came) + (1)))) (ty := .int) (C := RX0) (T := TX0) (N := 8) hx hb hts hin tyX0 tyX0_ok nmX0 hown hK hP hD hS 0 rfl rfl 3 (by decide) q_came (fun _ h9 => h9) rfl (by decide +kernel) rfl rfl (Nat.le_of_ble_eq_true rfl) dX0_nextNumber_12 (fun H locs hP hD hS => ?_)
  have hP : va_P D vwCl (W0 cI x0 x1 x2 x5 x6 x7 (n) ((came) + (1)) (MV) f g sp rf rc) H := hP
  have hD : va_D (mC x0 x1 x2 x5 x6 x7) (W0 cI x0 x1 x2 x5 x6 x7 (n) ((came) + (1)) (MV) f g sp rf rc) := hD
  refine lv_iload_n hx hb dX0_nextNumber_15 rfl (lv_at hl 0 rfl) ?_
  exact mu_iret hx hb hr hlocks hS dX0_nextNumber_16 (by rfl) ⟨f, g, sp, rf, rc, hAf, hAg, hAsp, hArf, hArc, hP, hD.weaken (fun _ _ _ h => hmb _ h)⟩
set_option maxHeartbeats 4000000 in
set_option maxRecDepth 100000 in
theorem c_countSpread (l : Launch) (D : va_G) (cI : ClassId) (base st : Nat) (Z : Nat → Nat) (x0 x1 x2 x5 x6 x7 : Nat) {n came MV : Int} {F G SP RF RC : Int → Int} (lv : Int) (hlv : 0 ≤ lv ∧ lv ≤ 8) : mu_M l yX0_countSpread wsX0_countSpread ({ frames := 0, cells := 0, slots := 0, locals := 0 } : Room) [.ref x0, .int (iI (lv))] (CP D cI base st Z x0 x1 x2 x5 x6 x7 n came MV F G SP RF RC) none ((fun H => CW D cI base x0 x1 x2 x5 x6 x7 (n) (came) (MV) (F) (G) (uI SP lv (SP lv + 1)) (RF) (RC) H)) (mC x0 x1 x2 x5 x6 x7) := by
  refine mu_of (cc := cX0_countSpread) (maxL := 2) (ret := none) (own := RX0) (by decide) rfl rfl (Nat.le_of_ble_eq_true rfl) ?_
  intro p e s m below meth c ls B hCP hl hS
  obtain ⟨hx, hb, hml, hr, hts, hown, hlocks⟩ := B
  obtain ⟨⟨hK, hZL, ⟨hstb, xs, hXL, hAL⟩, hTW⟩, f, g, sp, rf, rc, hAf, hAg, hAsp, hArf, hArc, hP, hDb⟩ := id hCP
  have hD := CW_mD hDb
  have hmb := mC_b hDb
  have hbl := CW_lt hCP.2
  have hSW0 := hCP.1
  have hl : lv_has ls 2 [(0, .ref x0), (1, .int (iI (lv)))] := hl
  have hin : ∀ w ∈ u_ws RX0 TX0 8, w ∈ wsX0_countSpread := by decide +kernel
  have q_spreads := hts (.fieldLink RX0 19 "ShelfMarks" "spreads" "[I") (by decide +kernel)
  refine lv_iload_n hx hb dX0_countSpread_0 rfl (lv_at hl 1 rfl) ?_
  refine pv_if_lt (tgt := 23) hx hb dX0_countSpread_1 (by decide) (by omega) (fun c_1 => ?_) (fun c_1 => ?_)
  · exfalso; omega
  · -- 1f
    refine lv_iload_n hx hb dX0_countSpread_4 rfl (lv_at hl 1 rfl) ?_
    refine lv_aload_n hx hb dX0_countSpread_5 rfl (lv_at hl 0 rfl) ?_
    refine va_get (D := D) (ci := 0) (v := .ref x5) (C := RX0) (T := TX0) (N := 8) hx hb hts hin hown hK hP 0 rfl rfl 5 (by decide) q_spreads (fun _ h9 => h9) rfl dX0_countSpread_6 ?_
    refine pv_alen (v := 9) hx hb hK hP 3 0 rfl rfl (show Int32.ofNat 9 = iI 9 by decide +kernel) dX0_countSpread_9 ?_
    refine pv_icmp_ge (tgt := 23) hx hb dX0_countSpread_10 (by decide) (by omega) (fun c_10 => ?_) (fun c_10 => ?_)
    · exfalso; omega
    · -- 10f
      refine lv_aload_n hx hb dX0_countSpread_13 rfl (lv_at hl 0 rfl) ?_
      refine va_get (D := D) (ci := 0) (v := .ref x5) (C := RX0) (T := TX0) (N := 8) hx hb hts hin hown hK hP 0 rfl rfl 5 (by decide) q_spreads (fun _ h9 => h9) rfl dX0_countSpread_14 ?_
      refine lv_iload_n hx hb dX0_countSpread_17 rfl (lv_at hl 1 rfl) ?_
      refine lv_dup2_11 hx hb dX0_countSpread_18 rfl rfl ?_
      refine pv_iald (i := lv) (v := SP (lv)) hx hb hK hP 3 0 rfl rfl (by omega) (by decide) (hAsp _ (by omega) (by omega)) dX0_countSpread_19 ?_
      refine pv_iconst hx hb dX0_countSpread_20 ?_
      refine pv_iadd hx hb dX0_countSpread_21 ?_
      refine pv_iast (i := lv) (v := (SP (lv)) + (1)) hx hb hK hP hD hS 3 0 rfl rfl (by omega) (by decide) dX0_countSpread_22 (fun H locs hP hD hS => ?_)
      have hP : va_P D vwCl (W0 cI x0 x1 x2 x5 x6 x7 (n) (came) (MV) f g (upd sp (lv).toNat (iI ((SP (lv)) + (1)))) rf rc) H := hP
      have hD : va_D (mC x0 x1 x2 x5 x6 x7) (W0 cI x0 x1 x2 x5 x6 x7 (n) (came) (MV) f g (upd sp (lv).toNat (iI ((SP (lv)) + (1)))) rf rc) := hD
      have hAsp := AR_up (k := lv) (v := (SP (lv)) + (1)) hAsp (by omega)
      generalize upd sp (lv).toNat (iI ((SP (lv)) + (1))) = sp at hP hD hAsp
      exact mu_vret hx hb hr hlocks hS dX0_countSpread_23 ⟨f, g, sp, rf, rc, hAf, hAg, hAsp, hArf, hArc, hP, hD.weaken (fun _ _ _ h => hmb _ h)⟩
set_option maxHeartbeats 4000000 in
set_option maxRecDepth 100000 in
theorem c_sendReadersOn (l : Launch) (D : va_G) (cI : ClassId) (base st : Nat) (Z : Nat → Nat) (x0 x1 x2 x5 x6 x7 : Nat) {n came MV : Int} {F G SP RF RC : Int → Int} (hRF : ∀ k : Int, 0 ≤ k → k < 4 → -1 ≤ RF k ∧ RF k < 200) (x nx : Int) (hxr : 0 ≤ x ∧ x < 200) : mu_M l yX0_sendReadersOn wsX0_sendReadersOn ({ frames := 0, cells := 0, slots := 0, locals := 0 } : Room) [.ref x0, .int (iI (x)), .int (iI (nx))] (CP D cI base st Z x0 x1 x2 x5 x6 x7 n came MV F G SP RF RC) none ((fun H => CW D cI base x0 x1 x2 x5 x6 x7 (n) (came) (MV) (F) (G) (SP) (sendF RF x nx) (RC) H)) (mC x0 x1 x2 x5 x6 x7) := by
  refine mu_of (cc := cX0_sendReadersOn) (maxL := 4) (ret := none) (own := RX0) (by decide) rfl rfl (Nat.le_of_ble_eq_true rfl) ?_
  intro p e s m below meth c ls B hCP hl hS
  obtain ⟨hx, hb, hml, hr, hts, hown, hlocks⟩ := B
  obtain ⟨⟨hK, hZL, ⟨hstb, xs, hXL, hAL⟩, hTW⟩, f, g, sp, rf, rc, hAf, hAg, hAsp, hArf, hArc, hP, hDb⟩ := id hCP
  have hD := CW_mD hDb
  have hmb := mC_b hDb
  have hbl := CW_lt hCP.2
  have hSW0 := hCP.1
  have hl : lv_has ls 4 [(0, .ref x0), (1, .int (iI (x))), (2, .int (iI (nx)))] := hl
  have hin : ∀ w ∈ u_ws RX0 TX0 8, w ∈ wsX0_sendReadersOn := by decide +kernel
  have q_readerFolders := hts (.fieldLink RX0 22 "ShelfMarks" "readerFolders" "[I") (by decide +kernel)
  refine pv_iconst hx hb dX0_sendReadersOn_0 ?_
  refine lv_istore_n (lv' := [(3, .int (iI (0))), (0, .ref x0), (1, .int (iI (x))), (2, .int (iI (nx)))]) hx hb dX0_sendReadersOn_1 rfl hl (by decide) rfl (fun ls hl => ?_)
  have hloop2 : ∀ (fuel : Nat) (i : Int) (R2 : Int → Int) (H : Heap) (locs : List Loc) (ls : Array Slot), (4 - i) < fuel → (0 ≤ i ∧ i ≤ 4) → (∀ k : Int, 0 ≤ k → k < i → R2 k = sendF RF x nx k) → (∀ k : Int, i ≤ k → k < 4 → R2 k = RF k) → CW D cI base x0 x1 x2 x5 x6 x7 (n) (came) (MV) (F) (G) (SP) (R2) (RC) H → va_S (mC x0 x1 x2 x5 x6 x7) s.heap H locs → lv_has ls 4 [(0, .ref x0), (1, .int (iI (x))), (2, .int (iI (nx))), (3, .int (iI (i)))] → W p l e ({ frames := 0, cells := 0, slots := 0, locals := 0 } : Room) s m ([.ref x0, .int (iI (x)), .int (iI (nx))] : List Value).toArray below meth c H locs 0 0 (MQ below (mu_Q none ((fun H => CW D cI base x0 x1 x2 x5 x6 x7 (n) (came) (MV) (F) (G) (SP) (sendF RF x nx) (RC) H)) (mC x0 x1 x2 x5 x6 x7)) ([.ref x0, .int (iI (x)), .int (iI (nx))] : List Value).toArray s 0 0 (mC x0 x1 x2 x5 x6 x7)) (F0 m 2 ls []) := by
    intro fuel
    induction fuel with
    | zero => intro i R2 H locs ls hfu hi hRa hRb hC9 hS hl; exfalso; omega
    | succ fuel ih =>
      intro i R2 H locs ls hfu hi hRa hRb hC9 hS hl
      obtain ⟨f, g, sp, rf, rc, hAf, hAg, hAsp, hArf, hArc, hP, hDb⟩ := hC9
      have hD := CW_mD hDb
      refine lv_iload_n hx hb dX0_sendReadersOn_2 rfl (lv_at hl 3 rfl) ?_
      refine pv_iconst hx hb dX0_sendReadersOn_3 ?_
      refine pv_icmp_ge (tgt := 30) hx hb dX0_sendReadersOn_4 (by decide) (by omega) (fun c_4 => ?_) (fun c_4 => ?_)
      · -- 4t
        exact mu_vret hx hb hr hlocks hS dX0_sendReadersOn_30 ⟨f, g, sp, rf, rc, hAf, hAg, hAsp, AR_to hArf (Int.le_refl _) (fun k h0 h1 => hRa k h0 (by omega)), hArc, hP, hD.weaken (fun _ _ _ h => hmb _ h)⟩
      · -- 4f
        refine lv_aload_n hx hb dX0_sendReadersOn_7 rfl (lv_at hl 0 rfl) ?_
        refine va_get (D := D) (ci := 0) (v := .ref x6) (C := RX0) (T := TX0) (N := 8) hx hb hts hin hown hK hP 0 rfl rfl 6 (by decide) q_readerFolders (fun _ h9 => h9) rfl dX0_sendReadersOn_8 ?_
        refine lv_iload_n hx hb dX0_sendReadersOn_11 rfl (lv_at hl 3 rfl) ?_
        refine pv_iald (i := i) (v := RF (i)) hx hb hK hP 4 0 rfl rfl (by omega) (by decide) ((hArf _ (by omega) (by omega)).trans (congrArg iI (hRb i (by omega) (by omega)))) dX0_sendReadersOn_12 ?_
        have hri := hRF i (by omega) (by omega)
        refine lv_iload_n hx hb dX0_sendReadersOn_13 rfl (lv_at hl 1 rfl) ?_
        refine pv_icmp_ne (tgt := 24) hx hb dX0_sendReadersOn_14 (by decide) (by omega) (fun c_14 => ?_) (fun c_14 => ?_)
        · -- 14t
          refine pv_iinc (lv' := [(3, .int (iI (i + 1))), (0, .ref x0), (1, .int (iI (x))), (2, .int (iI (nx)))]) hx hb dX0_sendReadersOn_24 hl (k := 3) rfl (by decide) rfl (fun ls hl => ?_)
          refine lv_goto (tgt := 2) hx hb dX0_sendReadersOn_27 (by decide) ?_
          exact ih (i + 1) (_) _ _ ls (by omega) (by omega) (fun k h0 h1 => by rcases (show k = i ∨ k < i by omega) with z | z; (unfold sendF; rw [z, if_neg c_14]; exact hRb i (by omega) (by omega)); exact hRa k h0 z) (fun k h0 h1 => hRb k (by omega) h1) ⟨f, g, sp, rf, rc, hAf, hAg, hAsp, hArf, hArc, hP, hD.weaken (fun _ _ _ h => hmb _ h)⟩ hS (lv_sub hl [1, 2, 3, 0] rfl)
        · -- 14f
          refine lv_aload_n hx hb dX0_sendReadersOn_17 rfl (lv_at hl 0 rfl) ?_
          refine va_get (D := D) (ci := 0) (v := .ref x6) (C := RX0) (T := TX0) (N := 8) hx hb hts hin hown hK hP 0 rfl rfl 6 (by decide) q_readerFolders (fun _ h9 => h9) rfl dX0_sendReadersOn_18 ?_
          refine lv_iload_n hx hb dX0_sendReadersOn_21 rfl (lv_at hl 3 rfl) ?_
          refine lv_iload_n hx hb dX0_sendReadersOn_22 rfl (lv_at hl 2 rfl) ?_
          refine pv_iast (i := i) (v := nx) hx hb hK hP hD hS 4 0 rfl rfl (by omega) (by decide) dX0_sendReadersOn_23 (fun H locs hP hD hS => ?_)
          have hP : va_P D vwCl (W0 cI x0 x1 x2 x5 x6 x7 (n) (came) (MV) f g sp (upd rf (i).toNat (iI (nx))) rc) H := hP
          have hD : va_D (mC x0 x1 x2 x5 x6 x7) (W0 cI x0 x1 x2 x5 x6 x7 (n) (came) (MV) f g sp (upd rf (i).toNat (iI (nx))) rc) := hD
          have hArf := AR_up (k := i) (v := nx) hArf (by omega)
          generalize upd rf (i).toNat (iI (nx)) = rf at hP hD hArf
          refine pv_iinc (lv' := [(3, .int (iI (i + 1))), (0, .ref x0), (1, .int (iI (x))), (2, .int (iI (nx)))]) hx hb dX0_sendReadersOn_24 hl (k := 3) rfl (by decide) rfl (fun ls hl => ?_)
          refine lv_goto (tgt := 2) hx hb dX0_sendReadersOn_27 (by decide) ?_
          exact ih (i + 1) (_) _ _ ls (by omega) (by omega) (fun k h0 h1 => by unfold uI; rcases (show k = i ∨ k < i by omega) with z | z; (rw [if_pos z, z]; unfold sendF; rw [if_pos c_14]); (rw [if_neg (by omega)]; exact hRa k h0 z)) (fun k h0 h1 => by unfold uI; rw [if_neg (by omega)]; exact hRb k (by omega) h1) ⟨f, g, sp, rf, rc, hAf, hAg, hAsp, hArf, hArc, hP, hD.weaken (fun _ _ _ h => hmb _ h)⟩ hS (lv_sub hl [1, 2, 3, 0] rfl)
  exact hloop2 ((4 : Int).toNat + 1) (0) (RF) _ _ ls (by omega) (by omega) (fun k h0 h1 => absurd h1 (by omega)) (fun k h0 h1 => rfl) ⟨f, g, sp, rf, rc, hAf, hAg, hAsp, hArf, hArc, hP, hD.weaken (fun _ _ _ h => hmb _ h)⟩ hS (lv_sub hl [1, 2, 3, 0] rfl)
set_option maxHeartbeats 4000000 in
set_option maxRecDepth 100000 in
theorem c_spreadOut (l : Launch) (D : va_G) (cI : ClassId) (base st : Nat) (Z : Nat → Nat) (x0 x1 x2 x5 x6 x7 : Nat) {n came MV : Int} {F G SP RF RC : Int → Int} (hn : 0 ≤ n ∧ n < 60) (hG : ∀ k : Int, 0 ≤ k → k < n → 0 ≤ G k ∧ G k ≤ 255) (hs : SD G n) (fo q : Int) (hq : 0 ≤ q ∧ q ≤ n) (lv : Int) (hlv : LV G n (A0 G n q) lv) : mu_M l yX0_spreadOut wsX0_spreadOut ({ frames := 4, cells := 0, slots := 0, locals := 89 } : Room) [.ref x0, .int (iI (fo)), .int (iI (q))] (CP D cI base st Z x0 x1 x2 x5 x6 x7 n came MV F G SP RF RC) none ((fun H => CW D cI base x0 x1 x2 x5 x6 x7 (n + 1) (came) (MV) (insF F q fo) (spG G (A0 G n q / 2 ^ lv.toNat * 2 ^ lv.toNat) (2 ^ lv.toNat) (mb G n (A0 G n q / 2 ^ lv.toNat * 2 ^ lv.toNat)) (ldn G n lv (A0 G n q / 2 ^ lv.toNat) + 1)) (uI SP lv (SP lv + 1)) (RF) (RC) H)) (mC x0 x1 x2 x5 x6 x7) := by
  refine mu_of (cc := cX0_spreadOut) (maxL := 8) (ret := none) (own := RX0) (by decide) rfl rfl (Nat.le_of_ble_eq_true rfl) ?_
  intro p e s m below meth c ls B hCP hl hS
  obtain ⟨hx, hb, hml, hr, hts, hown, hlocks⟩ := B
  obtain ⟨⟨hK, hZL, ⟨hstb, xs, hXL, hAL⟩, hTW⟩, f, g, sp, rf, rc, hAf, hAg, hAsp, hArf, hArc, hP, hDb⟩ := id hCP
  have hD := CW_mD hDb
  have hmb := mC_b hDb
  have hbl := CW_lt hCP.2
  have hSW0 := hCP.1
  have hl : lv_has ls 8 [(0, .ref x0), (1, .int (iI (fo))), (2, .int (iI (q)))] := hl
  refine lv_aload_n hx hb dX0_spreadOut_0 rfl (lv_at hl 0 rfl) ?_
  refine lv_iload_n hx hb dX0_spreadOut_1 rfl (lv_at hl 2 rfl) ?_
  have hn6 : 0 ≤ n ∧ n ≤ 60 := by omega
  have har := A0_rg hG hq
  have hlv1 := hlv.1
  have hsb := sh_b (lv := lv) har (by omega)
  have hp2 := p2_rg (lv := lv) (by omega)
  have hbq := bg_q (lv := lv) hn6 hG hs hq (by omega)
  have hCP : CP D cI base st Z x0 x1 x2 x5 x6 x7 (n) (came) (MV) (F) (G) (SP) (RF) (RC) s s.heap := ⟨hSW0.behind hbl hmb hS, ⟨f, g, sp, rf, rc, hAf, hAg, hAsp, hArf, hArc, hP, hD.weaken (fun _ _ _ h => hmb _ h)⟩⟩
  refine pu_callV (v := lv) (As := [.int (iI (q))]) (rest := []) CP_mv ⟨hx, hb, hml, hown, hts⟩ (c_levelToSpread l D cI base st Z x0 x1 x2 x5 x6 x7 hn6 hG hs q hq _ rfl har lv hlv) (cwV 1 hts gX0_spreadOut_X0_levelToSpread rfl rfl rfl (by decide +kernel) ⟨(Nat.le_of_ble_eq_true rfl), (Nat.le_of_ble_eq_true rfl)⟩) hCP (CP_rc hCP) rfl rfl hl.1 (Nat.le_of_ble_eq_true rfl) dX0_spreadOut_2 ⟨Nat.zero_le _, Nat.zero_le _⟩ ?_
  refine lv_istore_n (lv' := [(3, .int (iI (lv))), (0, .ref x0), (1, .int (iI (fo))), (2, .int (iI (q)))]) hx hb dX0_spreadOut_5 rfl hl (by decide) rfl (fun ls hl => ?_)
  refine lv_aload_n hx hb dX0_spreadOut_6 rfl (lv_at hl 1 rfl) ?_
  refine lv_iload_n hx hb dX0_spreadOut_7 rfl (lv_at hl 3 rfl) ?_
  refine lv_iload_n hx hb dX0_spreadOut_8 rfl (lv_at hl 0 rfl) ?_
  have hCP : CP D cI base st Z x0 x1 x2 x5 x6 x7 (n) (came) (MV) (F) (G) (SP) (RF) (RC) s s.heap := ⟨hSW0.behind hbl hmb hS, ⟨f, g, sp, rf, rc, hAf, hAg, hAsp, hArf, hArc, hP, hD.weaken (fun _ _ _ h => hmb _ h)⟩⟩
  refine pu_callV (v := A0 G n q / 2 ^ lv.toNat) (As := [.int (iI (q)), .int (iI (lv))]) (rest := []) CP_mv ⟨hx, hb, hml, hown, hts⟩ (c_shelfToSpread l D cI base st Z x0 x1 x2 x5 x6 x7 hn6 hG q hq lv (by omega) _ rfl hq.2 _ rfl) (cwV 2 hts gX0_spreadOut_X0_shelfToSpread rfl rfl rfl (by decide +kernel) ⟨(Nat.le_of_ble_eq_true rfl), (Nat.le_of_ble_eq_true rfl)⟩) hCP (CP_rc hCP) rfl rfl hl.1 (Nat.le_of_ble_eq_true rfl) dX0_spreadOut_9 ⟨Nat.zero_le _, Nat.zero_le _⟩ ?_
  obtain ⟨sh, hsh9⟩ : ∃ z, z = A0 G n q / 2 ^ lv.toNat := ⟨_, rfl⟩
  rw [← hsh9] at hsb hbq
  rw [show iI (A0 G n q / 2 ^ lv.toNat) = iI (sh) from congrArg iI (hsh9.symm)]
  refine lv_istore (lv' := [(4, .int (iI (sh))), (3, .int (iI (lv))), (0, .ref x0), (1, .int (iI (fo))), (2, .int (iI (q)))]) hx hb dX0_spreadOut_12 hl (by decide) rfl (fun ls hl => ?_)
  refine lv_aload_n hx hb dX0_spreadOut_14 rfl (lv_at hl 2 rfl) ?_
  refine lv_iload_n hx hb dX0_spreadOut_15 rfl (lv_at hl 1 rfl) ?_
  refine lv_iload hx hb dX0_spreadOut_16 (lv_at hl 0 rfl) ?_
  refine pu_callS (v := sh * 2 ^ lv.toNat) (As := [.int (iI (lv)), .int (iI (sh))]) (rest := [.ref x0]) TP_mv ⟨hx, hb, hml, hown, hts⟩ (c_firstMark l lv sh (by omega) (by omega) (by omega) _ rfl) (va_cwS 2 hts gX0_spreadOut_X0_firstMark rfl rfl rfl (by decide +kernel) ⟨(Nat.le_of_ble_eq_true rfl), (Nat.le_of_ble_eq_true rfl)⟩) trivial rfl rfl hl.1 (Nat.le_of_ble_eq_true rfl) dX0_spreadOut_18 ⟨Nat.zero_le _, Nat.zero_le _⟩ ?_
  have hCP : CP D cI base st Z x0 x1 x2 x5 x6 x7 (n) (came) (MV) (F) (G) (SP) (RF) (RC) s s.heap := ⟨hSW0.behind hbl hmb hS, ⟨f, g, sp, rf, rc, hAf, hAg, hAsp, hArf, hArc, hP, hD.weaken (fun _ _ _ h => hmb _ h)⟩⟩
  refine pu_callV (v := mb G n (sh * 2 ^ lv.toNat)) (As := [.int (iI (sh * 2 ^ lv.toNat))]) (rest := []) CP_mv ⟨hx, hb, hml, hown, hts⟩ (c_marksBelow l D cI base st Z x0 x1 x2 x5 x6 x7 hn6 hG _ (by omega) _ (mb_FI _ hn.1 hs)) (cwV 1 hts gX0_spreadOut_X0_marksBelow rfl rfl rfl (by decide +kernel) ⟨(Nat.le_of_ble_eq_true rfl), (Nat.le_of_ble_eq_true rfl)⟩) hCP (CP_rc hCP) rfl rfl hl.1 (Nat.le_of_ble_eq_true rfl) dX0_spreadOut_21 ⟨Nat.zero_le _, Nat.zero_le _⟩ ?_
  obtain ⟨bg, hbg⟩ : ∃ z, z = mb G n (sh * 2 ^ lv.toNat) := ⟨_, rfl⟩
  have hbgr := mb_rg (G := G) (m := sh * 2 ^ lv.toNat) hn.1
  have hend := ldn_end (G := G) (lv := lv) (sh := sh) hn6
  rw [← hbg] at hbgr hend hbq
  rw [show iI (mb G n (sh * 2 ^ lv.toNat)) = iI (bg) from congrArg iI (hbg.symm)]
  refine lv_istore (lv' := [(5, .int (iI (bg))), (4, .int (iI (sh))), (3, .int (iI (lv))), (0, .ref x0), (1, .int (iI (fo))), (2, .int (iI (q)))]) hx hb dX0_spreadOut_24 hl (by decide) rfl (fun ls hl => ?_)
  refine lv_aload_n hx hb dX0_spreadOut_26 rfl (lv_at hl 3 rfl) ?_
  refine lv_iload_n hx hb dX0_spreadOut_27 rfl (lv_at hl 2 rfl) ?_
  refine lv_iload hx hb dX0_spreadOut_28 (lv_at hl 1 rfl) ?_
  have hCP : CP D cI base st Z x0 x1 x2 x5 x6 x7 (n) (came) (MV) (F) (G) (SP) (RF) (RC) s s.heap := ⟨hSW0.behind hbl hmb hS, ⟨f, g, sp, rf, rc, hAf, hAg, hAsp, hArf, hArc, hP, hD.weaken (fun _ _ _ h => hmb _ h)⟩⟩
  refine pu_callV (v := ldn G n lv sh) (As := [.int (iI (lv)), .int (iI (sh))]) (rest := []) CP_mv ⟨hx, hb, hml, hown, hts⟩ (c_foldersOn l D cI base st Z x0 x1 x2 x5 x6 x7 hn6 hG hs lv sh (by omega) (by omega) ⟨by omega, by omega, by omega, by omega⟩ _ rfl) (cwV 2 hts gX0_spreadOut_X0_foldersOn rfl rfl rfl (by decide +kernel) ⟨(Nat.le_of_ble_eq_true rfl), (Nat.le_of_ble_eq_true rfl)⟩) hCP (CP_rc hCP) rfl rfl hl.1 (Nat.le_of_ble_eq_true rfl) dX0_spreadOut_30 ⟨Nat.zero_le _, Nat.zero_le _⟩ ?_
  have hldr := ldn_rg (lv := lv) (sh := sh) hn6 hs (by omega)
  obtain ⟨ct, hct⟩ : ∃ z, z = ldn G n lv sh := ⟨_, rfl⟩
  rw [← hct] at hldr hend hbq
  refine pv_iconst hx hb dX0_spreadOut_33 ?_
  refine pv_iadd hx hb dX0_spreadOut_34 ?_
  rw [show iI ((ldn G n lv sh) + (1)) = iI (ct + 1) from congrArg iI ((by omega))]
  refine lv_istore (lv' := [(6, .int (iI (ct + 1))), (5, .int (iI (bg))), (4, .int (iI (sh))), (3, .int (iI (lv))), (0, .ref x0), (1, .int (iI (fo))), (2, .int (iI (q)))]) hx hb dX0_spreadOut_35 hl (by decide) rfl (fun ls hl => ?_)
  refine lv_aload_n hx hb dX0_spreadOut_37 rfl (lv_at hl 4 rfl) ?_
  refine lv_iload_n hx hb dX0_spreadOut_38 rfl (lv_at hl 6 rfl) ?_
  refine lv_iload_n hx hb dX0_spreadOut_39 rfl (lv_at hl 5 rfl) ?_
  refine lv_iload_n hx hb dX0_spreadOut_40 rfl (lv_at hl 3 rfl) ?_
  refine lv_iload hx hb dX0_spreadOut_41 (lv_at hl 2 rfl) ?_
  refine pu_callS (v := sh * 2 ^ lv.toNat) (As := [.int (iI (lv)), .int (iI (sh))]) (rest := [.int (iI (fo)), .int (iI (q)), .ref x0]) TP_mv ⟨hx, hb, hml, hown, hts⟩ (c_firstMark l lv sh (by omega) (by omega) (by omega) _ rfl) (va_cwS 2 hts gX0_spreadOut_X0_firstMark rfl rfl rfl (by decide +kernel) ⟨(Nat.le_of_ble_eq_true rfl), (Nat.le_of_ble_eq_true rfl)⟩) trivial rfl rfl hl.1 (Nat.le_of_ble_eq_true rfl) dX0_spreadOut_43 ⟨Nat.zero_le _, Nat.zero_le _⟩ ?_
  have hCP : CP D cI base st Z x0 x1 x2 x5 x6 x7 (n) (came) (MV) (F) (G) (SP) (RF) (RC) s s.heap := ⟨hSW0.behind hbl hmb hS, ⟨f, g, sp, rf, rc, hAf, hAg, hAsp, hArf, hArc, hP, hD.weaken (fun _ _ _ h => hmb _ h)⟩⟩
  refine mu_callV (As := [.int (iI (q)), .int (iI (fo)), .int (iI (sh * 2 ^ lv.toNat))]) (rest := []) CP_mv ⟨hx, hb, hml, hown, hts⟩ (c_insertAt l D cI base st Z x0 x1 x2 x5 x6 x7 hn q hq fo (sh * 2 ^ lv.toNat)) (cwV 3 hts gX0_spreadOut_X0_insertAt rfl rfl rfl (by decide +kernel) ⟨(Nat.le_of_ble_eq_true rfl), (Nat.le_of_ble_eq_true rfl)⟩) hCP (CP_rc hCP) rfl rfl hl.1 (Nat.le_of_ble_eq_true rfl) dX0_spreadOut_46 ⟨Nat.zero_le _, Nat.zero_le _⟩ hS (fun _ h => h) (fun H locs hC9 hz9 hk9 hS => ?_)
  have hC9 : CW D cI base x0 x1 x2 x5 x6 x7 (n + 1) (came) (MV) (insF F q fo) (insF G q (sh * 2 ^ lv.toNat)) (SP) (RF) (RC) H := hC9
  obtain ⟨f, g, sp, rf, rc, hAf, hAg, hAsp, hArf, hArc, hP, hDb⟩ := hC9
  have hD := CW_mD hDb
  refine pv_iconst hx hb dX0_spreadOut_49 ?_
  refine lv_istore (lv' := [(7, .int (iI (0))), (6, .int (iI (ct + 1))), (5, .int (iI (bg))), (4, .int (iI (sh))), (3, .int (iI (lv))), (0, .ref x0), (1, .int (iI (fo))), (2, .int (iI (q)))]) hx hb dX0_spreadOut_50 hl (by decide) rfl (fun ls hl => ?_)
  have hloop52 : ∀ (fuel : Nat) (i : Int) (F2 : Int → Int) (G2 : Int → Int) (H : Heap) (locs : List Loc) (ls : Array Slot), (ct + 1 - i) < fuel → (0 ≤ i ∧ i ≤ ct + 1) → (∀ k : Int, 0 ≤ k → k < n + 1 → F2 k = insF F q fo k) → (∀ k : Int, 0 ≤ k → k < n + 1 → G2 k = if bg ≤ k ∧ k < bg + i then nm (sh * 2 ^ lv.toNat) (2 ^ lv.toNat) (ct + 1) (k - bg) else insF G q (sh * 2 ^ lv.toNat) k) → CW D cI base x0 x1 x2 x5 x6 x7 (n + 1) (came) (MV) (F2) (G2) (SP) (RF) (RC) H → va_S (mC x0 x1 x2 x5 x6 x7) s.heap H locs → lv_has ls 8 [(0, .ref x0), (1, .int (iI (fo))), (2, .int (iI (q))), (3, .int (iI (lv))), (4, .int (iI (sh))), (5, .int (iI (bg))), (6, .int (iI (ct + 1))), (7, .int (iI (i)))] → W p l e ({ frames := 4, cells := 0, slots := 0, locals := 89 } : Room) s m ([.ref x0, .int (iI (fo)), .int (iI (q))] : List Value).toArray below meth c H locs 0 0 (MQ below (mu_Q none ((fun H => CW D cI base x0 x1 x2 x5 x6 x7 (n + 1) (came) (MV) (insF F q fo) (spG G (A0 G n q / 2 ^ lv.toNat * 2 ^ lv.toNat) (2 ^ lv.toNat) (mb G n (A0 G n q / 2 ^ lv.toNat * 2 ^ lv.toNat)) (ldn G n lv (A0 G n q / 2 ^ lv.toNat) + 1)) (uI SP lv (SP lv + 1)) (RF) (RC) H)) (mC x0 x1 x2 x5 x6 x7)) ([.ref x0, .int (iI (fo)), .int (iI (q))] : List Value).toArray s 0 0 (mC x0 x1 x2 x5 x6 x7)) (F0 m 52 ls []) := by
    intro fuel
    induction fuel with
    | zero => intro i F2 G2 H locs ls hfu hi hFa hGa hC9 hS hl; exfalso; omega
    | succ fuel ih =>
      intro i F2 G2 H locs ls hfu hi hFa hGa hC9 hS hl
      obtain ⟨f, g, sp, rf, rc, hAf, hAg, hAsp, hArf, hArc, hP, hDb⟩ := hC9
      have hD := CW_mD hDb
      refine lv_iload hx hb dX0_spreadOut_52 (lv_at hl 7 rfl) ?_
      refine lv_iload hx hb dX0_spreadOut_54 (lv_at hl 6 rfl) ?_
      refine pv_icmp_ge (tgt := 93) hx hb dX0_spreadOut_56 (by decide) (by omega) (fun c_56 => ?_) (fun c_56 => ?_)
      · -- 56t
        refine lv_aload_n hx hb dX0_spreadOut_93 rfl (lv_at hl 0 rfl) ?_
        refine lv_iload_n hx hb dX0_spreadOut_94 rfl (lv_at hl 3 rfl) ?_
        have hCP : CP D cI base st Z x0 x1 x2 x5 x6 x7 (n + 1) (came) (MV) (F2) (G2) (SP) (RF) (RC) s H := ⟨hSW0.behind hbl hmb hS, ⟨f, g, sp, rf, rc, hAf, hAg, hAsp, hArf, hArc, hP, hD.weaken (fun _ _ _ h => hmb _ h)⟩⟩
        refine mu_callV (As := [.int (iI (lv))]) (rest := []) CP_mv ⟨hx, hb, hml, hown, hts⟩ (c_countSpread l D cI base st Z x0 x1 x2 x5 x6 x7 lv (by omega)) (cwV 1 hts gX0_spreadOut_X0_countSpread rfl rfl rfl (by decide +kernel) ⟨(Nat.le_of_ble_eq_true rfl), (Nat.le_of_ble_eq_true rfl)⟩) hCP (CP_rc hCP) rfl rfl hl.1 (Nat.le_of_ble_eq_true rfl) dX0_spreadOut_95 ⟨Nat.zero_le _, Nat.zero_le _⟩ hS (fun _ h => h) (fun H locs hC9 hz9 hk9 hS => ?_)
        have hC9 : CW D cI base x0 x1 x2 x5 x6 x7 (n + 1) (came) (MV) (F2) (G2) (uI SP lv (SP lv + 1)) (RF) (RC) H := hC9
        obtain ⟨f, g, sp, rf, rc, hAf, hAg, hAsp, hArf, hArc, hP, hDb⟩ := hC9
        have hD := CW_mD hDb
        exact mu_vret hx hb hr hlocks hS dX0_spreadOut_98 ⟨f, g, sp, rf, rc, AR_to hAf (Int.le_refl _) hFa, AR_to hAg (Int.le_refl _) (by rw [← hsh9, ← hbg, ← hct]; exact sp_fin (n := n) (q := q) (by omega) (by omega : i = ct + 1) hGa), hAsp, hArf, hArc, hP, hD.weaken (fun _ _ _ h => hmb _ h)⟩
      · -- 56f
        refine lv_aload_n hx hb dX0_spreadOut_59 rfl (lv_at hl 0 rfl) ?_
        refine lv_iload hx hb dX0_spreadOut_60 (lv_at hl 5 rfl) ?_
        refine lv_iload hx hb dX0_spreadOut_62 (lv_at hl 7 rfl) ?_
        refine pv_iadd hx hb dX0_spreadOut_64 ?_
        refine lv_aload_n hx hb dX0_spreadOut_65 rfl (lv_at hl 0 rfl) ?_
        refine lv_iload hx hb dX0_spreadOut_66 (lv_at hl 5 rfl) ?_
        refine lv_iload hx hb dX0_spreadOut_68 (lv_at hl 7 rfl) ?_
        refine pv_iadd hx hb dX0_spreadOut_70 ?_
        have hCP : CP D cI base st Z x0 x1 x2 x5 x6 x7 (n + 1) (came) (MV) (F2) (G2) (SP) (RF) (RC) s H := ⟨hSW0.behind hbl hmb hS, ⟨f, g, sp, rf, rc, hAf, hAg, hAsp, hArf, hArc, hP, hD.weaken (fun _ _ _ h => hmb _ h)⟩⟩
        refine pu_callV (v := F2 (bg + i)) (As := [.int (iI ((bg) + (i)))]) (rest := [.int (iI ((bg) + (i))), .ref x0]) CP_mv ⟨hx, hb, hml, hown, hts⟩ (c_folderAt l D cI base st Z x0 x1 x2 x5 x6 x7 (by omega) (bg + i) (by omega) _ (by unfold fa; rw [if_pos (by omega)])) (cwV 1 hts gX0_spreadOut_X0_folderAt rfl rfl rfl (by decide +kernel) ⟨(Nat.le_of_ble_eq_true rfl), (Nat.le_of_ble_eq_true rfl)⟩) hCP (CP_rc hCP) rfl rfl hl.1 (Nat.le_of_ble_eq_true rfl) dX0_spreadOut_71 ⟨Nat.zero_le _, Nat.zero_le _⟩ ?_
        refine lv_iload_n hx hb dX0_spreadOut_74 rfl (lv_at hl 3 rfl) ?_
        refine lv_iload hx hb dX0_spreadOut_75 (lv_at hl 4 rfl) ?_
        refine lv_iload hx hb dX0_spreadOut_77 (lv_at hl 7 rfl) ?_
        refine lv_iload hx hb dX0_spreadOut_79 (lv_at hl 6 rfl) ?_
        refine pu_callS (v := nm (sh * 2 ^ lv.toNat) (2 ^ lv.toNat) (ct + 1) i) (As := [.int (iI (lv)), .int (iI (sh)), .int (iI (i)), .int (iI (ct + 1))]) (rest := [.int (iI (F2 (bg + i))), .int (iI ((bg) + (i))), .ref x0]) TP_mv ⟨hx, hb, hml, hown, hts⟩ (c_spreadMark l lv sh i (ct + 1) (by omega) (by omega) (by omega) (by omega) (by omega) _ rfl) (va_cwS 4 hts gX0_spreadOut_X0_spreadMark rfl rfl rfl (by decide +kernel) ⟨(Nat.le_of_ble_eq_true rfl), (Nat.le_of_ble_eq_true rfl)⟩) trivial rfl rfl hl.1 (Nat.le_of_ble_eq_true rfl) dX0_spreadOut_81 ⟨Nat.zero_le _, Nat.zero_le _⟩ ?_
        have hCP : CP D cI base st Z x0 x1 x2 x5 x6 x7 (n + 1) (came) (MV) (F2) (G2) (SP) (RF) (RC) s H := ⟨hSW0.behind hbl hmb hS, ⟨f, g, sp, rf, rc, hAf, hAg, hAsp, hArf, hArc, hP, hD.weaken (fun _ _ _ h => hmb _ h)⟩⟩
        refine mu_callV (As := [.int (iI ((bg) + (i))), .int (iI (F2 (bg + i))), .int (iI (nm (sh * 2 ^ lv.toNat) (2 ^ lv.toNat) (ct + 1) i))]) (rest := []) CP_mv ⟨hx, hb, hml, hown, hts⟩ (c_set l D cI base st Z x0 x1 x2 x5 x6 x7 (by omega) (bg + i) (by omega) (F2 (bg + i)) (nm (sh * 2 ^ lv.toNat) (2 ^ lv.toNat) (ct + 1) i)) (cwV 3 hts gX0_spreadOut_X0_set rfl rfl rfl (by decide +kernel) ⟨(Nat.le_of_ble_eq_true rfl), (Nat.le_of_ble_eq_true rfl)⟩) hCP (CP_rc hCP) rfl rfl hl.1 (Nat.le_of_ble_eq_true rfl) dX0_spreadOut_84 ⟨Nat.zero_le _, Nat.zero_le _⟩ hS (fun _ h => h) (fun H locs hC9 hz9 hk9 hS => ?_)
        have hC9 : CW D cI base x0 x1 x2 x5 x6 x7 (n + 1) (came) (MV) (uI F2 (bg + i) (F2 (bg + i))) (uI G2 (bg + i) (nm (sh * 2 ^ lv.toNat) (2 ^ lv.toNat) (ct + 1) i)) (SP) (RF) (RC) H := hC9
        obtain ⟨f, g, sp, rf, rc, hAf, hAg, hAsp, hArf, hArc, hP, hDb⟩ := hC9
        have hD := CW_mD hDb
        refine pv_iinc (lv' := [(7, .int (iI (i + 1))), (0, .ref x0), (1, .int (iI (fo))), (2, .int (iI (q))), (3, .int (iI (lv))), (4, .int (iI (sh))), (5, .int (iI (bg))), (6, .int (iI (ct + 1)))]) hx hb dX0_spreadOut_87 hl (k := 7) rfl (by decide) rfl (fun ls hl => ?_)
        refine lv_goto (tgt := 52) hx hb dX0_spreadOut_90 (by decide) ?_
        exact ih (i + 1) (_) (_) _ _ ls (by omega) (by omega) (fun k h0 h1 => by unfold uI; split; (rename_i z; rw [← z]; exact hFa k h0 h1); exact hFa k h0 h1) (fun k h0 h1 => by unfold uI; rcases (show k = bg + i ∨ k ≠ bg + i by omega) with z | z; (rw [if_pos z, if_pos (by omega), show k - bg = i by omega]); (rw [if_neg z, hGa k h0 h1]; by_cases z2 : bg ≤ k ∧ k < bg + i; rw [if_pos z2, if_pos (by omega)]; rw [if_neg z2, if_neg (by omega)])) ⟨f, g, sp, rf, rc, hAf, hAg, hAsp, hArf, hArc, hP, hD.weaken (fun _ _ _ h => hmb _ h)⟩ hS (lv_sub hl [1, 2, 3, 4, 5, 6, 7, 0] rfl)
  exact hloop52 ((ct + 1 : Int).toNat + 1) (0) (insF F q fo) (insF G q (sh * 2 ^ lv.toNat)) _ _ ls (by omega) (by omega) (fun k h0 h1 => rfl) (fun k h0 h1 => by rw [if_neg (by omega)]) ⟨f, g, sp, rf, rc, hAf, hAg, hAsp, hArf, hArc, hP, hD.weaken (fun _ _ _ h => hmb _ h)⟩ hS (lv_sub hl [5, 6, 7, 4, 3, 2, 1, 0] rfl)
set_option maxHeartbeats 4000000 in
set_option maxRecDepth 100000 in
theorem c_putIn (l : Launch) (D : va_G) (cI : ClassId) (base st : Nat) (Z : Nat → Nat) (x0 x1 x2 x5 x6 x7 : Nat) {n came MV : Int} {F G SP RF RC : Int → Int} (hn : 0 ≤ n ∧ n < 60) (hG : ∀ k : Int, 0 ≤ k → k < n → 0 ≤ G k ∧ G k ≤ 255) (hs : SD G n) (fo q : Int) (hq : 0 ≤ q ∧ q ≤ n) (G2 : Int → Int) (dm : Int) (SP2 : Int → Int) (hPT : PT G n q SP G2 dm SP2) : mu_M l yX0_putIn wsX0_putIn ({ frames := 5, cells := 0, slots := 0, locals := 117 } : Room) [.ref x0, .int (iI (fo)), .int (iI (q))] (CP D cI base st Z x0 x1 x2 x5 x6 x7 n came MV F G SP RF RC) none ((fun H => CW D cI base x0 x1 x2 x5 x6 x7 (n + 1) (came) (MV + dm) (insF F q fo) (G2) (SP2) (RF) (RC) H)) (mC x0 x1 x2 x5 x6 x7) := by
  refine mu_of (cc := cX0_putIn) (maxL := 3) (ret := none) (own := RX0) (by decide) rfl rfl (Nat.le_of_ble_eq_true rfl) ?_
  intro p e s m below meth c ls B hCP hl hS
  obtain ⟨hx, hb, hml, hr, hts, hown, hlocks⟩ := B
  obtain ⟨⟨hK, hZL, ⟨hstb, xs, hXL, hAL⟩, hTW⟩, f, g, sp, rf, rc, hAf, hAg, hAsp, hArf, hArc, hP, hDb⟩ := id hCP
  have hD := CW_mD hDb
  have hmb := mC_b hDb
  have hbl := CW_lt hCP.2
  have hSW0 := hCP.1
  have hl : lv_has ls 3 [(0, .ref x0), (1, .int (iI (fo))), (2, .int (iI (q)))] := hl
  have hin : ∀ w ∈ u_ws RX0 TX0 8, w ∈ wsX0_putIn := by decide +kernel
  have q_moves := hts (.fieldLink RX0 95 "ShelfMarks" "moves" "I") (by decide +kernel)
  rcases hPT with ⟨hfree, rfl, rfl, hsp⟩ | ⟨hfull, lv, hlv, rfl, rfl, rfl⟩
  · -- A
    obtain rfl := hsp.symm
    refine lv_aload_n hx hb dX0_putIn_0 rfl (lv_at hl 0 rfl) ?_
    have hn6 : 0 ≤ n ∧ n ≤ 60 := by omega
    have har := A0_rg hG hq
    have hm1 := ma_rg hG q
    have hm2 := ma_rg hG (q - 1)
    refine lv_dup hx hb dX0_putIn_1 rfl ?_
    refine va_get (D := D) (ci := 0) (v := .int (iI (MV))) (C := RX0) (T := TX0) (N := 8) hx hb hts hin hown hK hP 0 rfl rfl 4 (by decide) q_moves (fun _ h9 => h9) rfl dX0_putIn_2 ?_
    refine lv_aload_n hx hb dX0_putIn_5 rfl (lv_at hl 0 rfl) ?_
    refine lv_iload_n hx hb dX0_putIn_6 rfl (lv_at hl 2 rfl) ?_
    have hCP : CP D cI base st Z x0 x1 x2 x5 x6 x7 (n) (came) (MV) (F) (G) (SP) (RF) (RC) s s.heap := ⟨hSW0.behind hbl hmb hS, ⟨f, g, sp, rf, rc, hAf, hAg, hAsp, hArf, hArc, hP, hD.weaken (fun _ _ _ h => hmb _ h)⟩⟩
    refine pu_callV (v := 0) (As := [.int (iI (q))]) (rest := [.int (iI (MV)), .ref x0]) CP_mv ⟨hx, hb, hml, hown, hts⟩ (c_moves_free l D cI base st Z x0 x1 x2 x5 x6 x7 hn6 hG q hq hfree) (cwV 1 hts gX0_putIn_X0_movesByPuttingIn rfl rfl rfl (by decide +kernel) ⟨(Nat.le_of_ble_eq_true rfl), (Nat.le_of_ble_eq_true rfl)⟩) hCP (CP_rc hCP) rfl rfl hl.1 (Nat.le_of_ble_eq_true rfl) dX0_putIn_7 ⟨Nat.zero_le _, Nat.zero_le _⟩ ?_
    refine pv_iadd hx hb dX0_putIn_10 ?_
    rw [show iI ((MV) + (0)) = iI (MV + 0) from congrArg iI (rfl)]
    refine va_put (D := D) (ci := 0) (v := .int (iI (MV + 0))) (ty := .int) (C := RX0) (T := TX0) (N := 8) hx hb hts hin tyX0 tyX0_ok nmX0 hown hK hP hD hS 0 rfl rfl 4 (by decide) q_moves (fun _ h9 => h9) rfl (by decide +kernel) rfl rfl (Nat.le_of_ble_eq_true rfl) dX0_putIn_11 (fun H locs hP hD hS => ?_)
    have hP : va_P D vwCl (W0 cI x0 x1 x2 x5 x6 x7 (n) (came) (MV + 0) f g sp rf rc) H := hP
    have hD : va_D (mC x0 x1 x2 x5 x6 x7) (W0 cI x0 x1 x2 x5 x6 x7 (n) (came) (MV + 0) f g sp rf rc) := hD
    refine lv_aload_n hx hb dX0_putIn_14 rfl (lv_at hl 0 rfl) ?_
    refine lv_iload_n hx hb dX0_putIn_15 rfl (lv_at hl 2 rfl) ?_
    have hCP : CP D cI base st Z x0 x1 x2 x5 x6 x7 (n) (came) (MV + 0) (F) (G) (SP) (RF) (RC) s H := ⟨hSW0.behind hbl hmb hS, ⟨f, g, sp, rf, rc, hAf, hAg, hAsp, hArf, hArc, hP, hD.weaken (fun _ _ _ h => hmb _ h)⟩⟩
    refine pu_callV (v := 1) (As := [.int (iI (q))]) (rest := []) CP_mv ⟨hx, hb, hml, hown, hts⟩ (c_hasFreeMark l D cI base st Z x0 x1 x2 x5 x6 x7 hn6 hG q hq 1 (by rw [if_pos hfree])) (cwV 1 hts gX0_putIn_X0_hasFreeMark rfl rfl rfl (by decide +kernel) ⟨(Nat.le_of_ble_eq_true rfl), (Nat.le_of_ble_eq_true rfl)⟩) hCP (CP_rc hCP) rfl rfl hl.1 (Nat.le_of_ble_eq_true rfl) dX0_putIn_16 ⟨Nat.zero_le _, Nat.zero_le _⟩ ?_
    refine pv_if_eq (tgt := 46) hx hb dX0_putIn_19 (by decide) (by omega) (fun c_19 => ?_) (fun c_19 => ?_)
    · exact absurd c_19 (by omega)
    · -- 19f
      refine lv_aload_n hx hb dX0_putIn_22 rfl (lv_at hl 0 rfl) ?_
      refine lv_iload_n hx hb dX0_putIn_23 rfl (lv_at hl 2 rfl) ?_
      refine lv_iload_n hx hb dX0_putIn_24 rfl (lv_at hl 1 rfl) ?_
      refine lv_aload_n hx hb dX0_putIn_25 rfl (lv_at hl 0 rfl) ?_
      refine lv_iload_n hx hb dX0_putIn_26 rfl (lv_at hl 2 rfl) ?_
      refine pv_iconst hx hb dX0_putIn_27 ?_
      refine pv_isub hx hb dX0_putIn_28 ?_
      have hCP : CP D cI base st Z x0 x1 x2 x5 x6 x7 (n) (came) (MV + 0) (F) (G) (SP) (RF) (RC) s H := ⟨hSW0.behind hbl hmb hS, ⟨f, g, sp, rf, rc, hAf, hAg, hAsp, hArf, hArc, hP, hD.weaken (fun _ _ _ h => hmb _ h)⟩⟩
      refine pu_callV (v := ma G n (q - 1)) (As := [.int (iI ((q) - (1)))]) (rest := [.int (iI (fo)), .int (iI (q)), .ref x0]) CP_mv ⟨hx, hb, hml, hown, hts⟩ (c_markAt l D cI base st Z x0 x1 x2 x5 x6 x7 hn6 (q - 1) (by omega) _ rfl) (cwV 1 hts gX0_putIn_X0_markAt rfl rfl rfl (by decide +kernel) ⟨(Nat.le_of_ble_eq_true rfl), (Nat.le_of_ble_eq_true rfl)⟩) hCP (CP_rc hCP) rfl rfl hl.1 (Nat.le_of_ble_eq_true rfl) dX0_putIn_29 ⟨Nat.zero_le _, Nat.zero_le _⟩ ?_
      refine lv_aload_n hx hb dX0_putIn_32 rfl (lv_at hl 0 rfl) ?_
      refine lv_iload_n hx hb dX0_putIn_33 rfl (lv_at hl 2 rfl) ?_
      have hCP : CP D cI base st Z x0 x1 x2 x5 x6 x7 (n) (came) (MV + 0) (F) (G) (SP) (RF) (RC) s H := ⟨hSW0.behind hbl hmb hS, ⟨f, g, sp, rf, rc, hAf, hAg, hAsp, hArf, hArc, hP, hD.weaken (fun _ _ _ h => hmb _ h)⟩⟩
      refine pu_callV (v := ma G n q) (As := [.int (iI (q))]) (rest := [.int (iI (ma G n (q - 1))), .int (iI (fo)), .int (iI (q)), .ref x0]) CP_mv ⟨hx, hb, hml, hown, hts⟩ (c_markAt l D cI base st Z x0 x1 x2 x5 x6 x7 hn6 q (by omega) _ rfl) (cwV 1 hts gX0_putIn_X0_markAt rfl rfl rfl (by decide +kernel) ⟨(Nat.le_of_ble_eq_true rfl), (Nat.le_of_ble_eq_true rfl)⟩) hCP (CP_rc hCP) rfl rfl hl.1 (Nat.le_of_ble_eq_true rfl) dX0_putIn_34 ⟨Nat.zero_le _, Nat.zero_le _⟩ ?_
      refine pv_iadd hx hb dX0_putIn_37 ?_
      refine pv_iconst hx hb dX0_putIn_38 ?_
      refine pv_idiv hx hb dX0_putIn_39 (by omega) (by omega) ?_
      have hCP : CP D cI base st Z x0 x1 x2 x5 x6 x7 (n) (came) (MV + 0) (F) (G) (SP) (RF) (RC) s H := ⟨hSW0.behind hbl hmb hS, ⟨f, g, sp, rf, rc, hAf, hAg, hAsp, hArf, hArc, hP, hD.weaken (fun _ _ _ h => hmb _ h)⟩⟩
      refine mu_callV (As := [.int (iI (q)), .int (iI (fo)), .int (iI (((ma G n (q - 1)) + (ma G n q)) / (2)))]) (rest := []) CP_mv ⟨hx, hb, hml, hown, hts⟩ (c_insertAt l D cI base st Z x0 x1 x2 x5 x6 x7 hn q hq fo ((ma G n (q - 1) + ma G n q) / 2)) (cwV 3 hts gX0_putIn_X0_insertAt rfl rfl rfl (by decide +kernel) ⟨(Nat.le_of_ble_eq_true rfl), (Nat.le_of_ble_eq_true rfl)⟩) hCP (CP_rc hCP) rfl rfl hl.1 (Nat.le_of_ble_eq_true rfl) dX0_putIn_40 ⟨Nat.zero_le _, Nat.zero_le _⟩ hS (fun _ h => h) (fun H locs hC9 hz9 hk9 hS => ?_)
      have hC9 : CW D cI base x0 x1 x2 x5 x6 x7 (n + 1) (came) (MV + 0) (insF F q fo) (insF G q ((ma G n (q - 1) + ma G n q) / 2)) (SP) (RF) (RC) H := hC9
      obtain ⟨f, g, sp, rf, rc, hAf, hAg, hAsp, hArf, hArc, hP, hDb⟩ := hC9
      have hD := CW_mD hDb
      refine lv_goto (tgt := 52) hx hb dX0_putIn_43 (by decide) ?_
      exact mu_vret hx hb hr hlocks hS dX0_putIn_52 ⟨f, g, sp, rf, rc, hAf, hAg, hAsp, hArf, hArc, hP, hD.weaken (fun _ _ _ h => hmb _ h)⟩
  · -- B
    refine lv_aload_n hx hb dX0_putIn_0 rfl (lv_at hl 0 rfl) ?_
    have hn6 : 0 ≤ n ∧ n ≤ 60 := by omega
    have har := A0_rg hG hq
    have hm1 := ma_rg hG q
    have hm2 := ma_rg hG (q - 1)
    refine lv_dup hx hb dX0_putIn_1 rfl ?_
    refine va_get (D := D) (ci := 0) (v := .int (iI (MV))) (C := RX0) (T := TX0) (N := 8) hx hb hts hin hown hK hP 0 rfl rfl 4 (by decide) q_moves (fun _ h9 => h9) rfl dX0_putIn_2 ?_
    refine lv_aload_n hx hb dX0_putIn_5 rfl (lv_at hl 0 rfl) ?_
    refine lv_iload_n hx hb dX0_putIn_6 rfl (lv_at hl 2 rfl) ?_
    have hCP : CP D cI base st Z x0 x1 x2 x5 x6 x7 (n) (came) (MV) (F) (G) (SP) (RF) (RC) s s.heap := ⟨hSW0.behind hbl hmb hS, ⟨f, g, sp, rf, rc, hAf, hAg, hAsp, hArf, hArc, hP, hD.weaken (fun _ _ _ h => hmb _ h)⟩⟩
    refine pu_callV (v := mvn G q (A0 G n q / 2 ^ lv.toNat * 2 ^ lv.toNat) (2 ^ lv.toNat) (mb G n (A0 G n q / 2 ^ lv.toNat * 2 ^ lv.toNat)) (ldn G n lv (A0 G n q / 2 ^ lv.toNat) + 1) (ldn G n lv (A0 G n q / 2 ^ lv.toNat)).toNat) (As := [.int (iI (q))]) (rest := [.int (iI (MV)), .ref x0]) CP_mv ⟨hx, hb, hml, hown, hts⟩ (c_moves_full l D cI base st Z x0 x1 x2 x5 x6 x7 hn6 hG hs q hq hfull (A0 G n q) rfl har lv hlv _ rfl) (cwV 1 hts gX0_putIn_X0_movesByPuttingIn rfl rfl rfl (by decide +kernel) ⟨(Nat.le_of_ble_eq_true rfl), (Nat.le_of_ble_eq_true rfl)⟩) hCP (CP_rc hCP) rfl rfl hl.1 (Nat.le_of_ble_eq_true rfl) dX0_putIn_7 ⟨Nat.zero_le _, Nat.zero_le _⟩ ?_
    refine pv_iadd hx hb dX0_putIn_10 ?_
    rw [show iI ((MV) + (mvn G q (A0 G n q / 2 ^ lv.toNat * 2 ^ lv.toNat) (2 ^ lv.toNat) (mb G n (A0 G n q / 2 ^ lv.toNat * 2 ^ lv.toNat)) (ldn G n lv (A0 G n q / 2 ^ lv.toNat) + 1) (ldn G n lv (A0 G n q / 2 ^ lv.toNat)).toNat)) = iI (MV + mvn G q (A0 G n q / 2 ^ lv.toNat * 2 ^ lv.toNat) (2 ^ lv.toNat) (mb G n (A0 G n q / 2 ^ lv.toNat * 2 ^ lv.toNat)) (ldn G n lv (A0 G n q / 2 ^ lv.toNat) + 1) (ldn G n lv (A0 G n q / 2 ^ lv.toNat)).toNat) from congrArg iI (rfl)]
    refine va_put (D := D) (ci := 0) (v := .int (iI (MV + mvn G q (A0 G n q / 2 ^ lv.toNat * 2 ^ lv.toNat) (2 ^ lv.toNat) (mb G n (A0 G n q / 2 ^ lv.toNat * 2 ^ lv.toNat)) (ldn G n lv (A0 G n q / 2 ^ lv.toNat) + 1) (ldn G n lv (A0 G n q / 2 ^ lv.toNat)).toNat))) (ty := .int) (C := RX0) (T := TX0) (N := 8) hx hb hts hin tyX0 tyX0_ok nmX0 hown hK hP hD hS 0 rfl rfl 4 (by decide) q_moves (fun _ h9 => h9) rfl (by decide +kernel) rfl rfl (Nat.le_of_ble_eq_true rfl) dX0_putIn_11 (fun H locs hP hD hS => ?_)
    have hP : va_P D vwCl (W0 cI x0 x1 x2 x5 x6 x7 (n) (came) (MV + mvn G q (A0 G n q / 2 ^ lv.toNat * 2 ^ lv.toNat) (2 ^ lv.toNat) (mb G n (A0 G n q / 2 ^ lv.toNat * 2 ^ lv.toNat)) (ldn G n lv (A0 G n q / 2 ^ lv.toNat) + 1) (ldn G n lv (A0 G n q / 2 ^ lv.toNat)).toNat) f g sp rf rc) H := hP
    have hD : va_D (mC x0 x1 x2 x5 x6 x7) (W0 cI x0 x1 x2 x5 x6 x7 (n) (came) (MV + mvn G q (A0 G n q / 2 ^ lv.toNat * 2 ^ lv.toNat) (2 ^ lv.toNat) (mb G n (A0 G n q / 2 ^ lv.toNat * 2 ^ lv.toNat)) (ldn G n lv (A0 G n q / 2 ^ lv.toNat) + 1) (ldn G n lv (A0 G n q / 2 ^ lv.toNat)).toNat) f g sp rf rc) := hD
    refine lv_aload_n hx hb dX0_putIn_14 rfl (lv_at hl 0 rfl) ?_
    refine lv_iload_n hx hb dX0_putIn_15 rfl (lv_at hl 2 rfl) ?_
    have hCP : CP D cI base st Z x0 x1 x2 x5 x6 x7 (n) (came) (MV + mvn G q (A0 G n q / 2 ^ lv.toNat * 2 ^ lv.toNat) (2 ^ lv.toNat) (mb G n (A0 G n q / 2 ^ lv.toNat * 2 ^ lv.toNat)) (ldn G n lv (A0 G n q / 2 ^ lv.toNat) + 1) (ldn G n lv (A0 G n q / 2 ^ lv.toNat)).toNat) (F) (G) (SP) (RF) (RC) s H := ⟨hSW0.behind hbl hmb hS, ⟨f, g, sp, rf, rc, hAf, hAg, hAsp, hArf, hArc, hP, hD.weaken (fun _ _ _ h => hmb _ h)⟩⟩
    refine pu_callV (v := 0) (As := [.int (iI (q))]) (rest := []) CP_mv ⟨hx, hb, hml, hown, hts⟩ (c_hasFreeMark l D cI base st Z x0 x1 x2 x5 x6 x7 hn6 hG q hq 0 (by rw [if_neg (by omega)])) (cwV 1 hts gX0_putIn_X0_hasFreeMark rfl rfl rfl (by decide +kernel) ⟨(Nat.le_of_ble_eq_true rfl), (Nat.le_of_ble_eq_true rfl)⟩) hCP (CP_rc hCP) rfl rfl hl.1 (Nat.le_of_ble_eq_true rfl) dX0_putIn_16 ⟨Nat.zero_le _, Nat.zero_le _⟩ ?_
    refine pv_if_eq (tgt := 46) hx hb dX0_putIn_19 (by decide) (by omega) (fun c_19 => ?_) (fun c_19 => ?_)
    · -- 19t
      refine lv_aload_n hx hb dX0_putIn_46 rfl (lv_at hl 0 rfl) ?_
      refine lv_iload_n hx hb dX0_putIn_47 rfl (lv_at hl 1 rfl) ?_
      refine lv_iload_n hx hb dX0_putIn_48 rfl (lv_at hl 2 rfl) ?_
      have hCP : CP D cI base st Z x0 x1 x2 x5 x6 x7 (n) (came) (MV + mvn G q (A0 G n q / 2 ^ lv.toNat * 2 ^ lv.toNat) (2 ^ lv.toNat) (mb G n (A0 G n q / 2 ^ lv.toNat * 2 ^ lv.toNat)) (ldn G n lv (A0 G n q / 2 ^ lv.toNat) + 1) (ldn G n lv (A0 G n q / 2 ^ lv.toNat)).toNat) (F) (G) (SP) (RF) (RC) s H := ⟨hSW0.behind hbl hmb hS, ⟨f, g, sp, rf, rc, hAf, hAg, hAsp, hArf, hArc, hP, hD.weaken (fun _ _ _ h => hmb _ h)⟩⟩
      refine mu_callV (As := [.int (iI (fo)), .int (iI (q))]) (rest := []) CP_mv ⟨hx, hb, hml, hown, hts⟩ (c_spreadOut l D cI base st Z x0 x1 x2 x5 x6 x7 hn hG hs fo q hq lv hlv) (cwV 2 hts gX0_putIn_X0_spreadOut rfl rfl rfl (by decide +kernel) ⟨(Nat.le_of_ble_eq_true rfl), (Nat.le_of_ble_eq_true rfl)⟩) hCP (CP_rc hCP) rfl rfl hl.1 (Nat.le_of_ble_eq_true rfl) dX0_putIn_49 ⟨Nat.zero_le _, Nat.zero_le _⟩ hS (fun _ h => h) (fun H locs hC9 hz9 hk9 hS => ?_)
      have hC9 : CW D cI base x0 x1 x2 x5 x6 x7 (n + 1) (came) (MV + mvn G q (A0 G n q / 2 ^ lv.toNat * 2 ^ lv.toNat) (2 ^ lv.toNat) (mb G n (A0 G n q / 2 ^ lv.toNat * 2 ^ lv.toNat)) (ldn G n lv (A0 G n q / 2 ^ lv.toNat) + 1) (ldn G n lv (A0 G n q / 2 ^ lv.toNat)).toNat) (insF F q fo) (spG G (A0 G n q / 2 ^ lv.toNat * 2 ^ lv.toNat) (2 ^ lv.toNat) (mb G n (A0 G n q / 2 ^ lv.toNat * 2 ^ lv.toNat)) (ldn G n lv (A0 G n q / 2 ^ lv.toNat) + 1)) (uI SP lv (SP lv + 1)) (RF) (RC) H := hC9
      obtain ⟨f, g, sp, rf, rc, hAf, hAg, hAsp, hArf, hArc, hP, hDb⟩ := hC9
      have hD := CW_mD hDb
      exact mu_vret hx hb hr hlocks hS dX0_putIn_52 ⟨f, g, sp, rf, rc, hAf, hAg, hAsp, hArf, hArc, hP, hD.weaken (fun _ _ _ h => hmb _ h)⟩
    · exact absurd c_19 (by omega)
set_option maxHeartbeats 4000000 in
set_option maxRecDepth 100000 in
theorem c_putFirst (l : Launch) (D : va_G) (cI : ClassId) (base st : Nat) (Z : Nat → Nat) (x0 x1 x2 x5 x6 x7 : Nat) {n came MV : Int} {F G SP RF RC : Int → Int} (hn : 0 ≤ n ∧ n < 60) (hG : ∀ k : Int, 0 ≤ k → k < n → 0 ≤ G k ∧ G k ≤ 255) (hs : SD G n) (hcm : 0 ≤ came ∧ came < 200) (G2 : Int → Int) (dm : Int) (SP2 : Int → Int) (hPT : PT G n 0 SP G2 dm SP2) : mu_M l yX0_putFirst wsX0_putFirst ({ frames := 6, cells := 0, slots := 0, locals := 139 } : Room) [.ref x0] (CP D cI base st Z x0 x1 x2 x5 x6 x7 n came MV F G SP RF RC) (some (.int (iI came))) ((fun H => CW D cI base x0 x1 x2 x5 x6 x7 (n + 1) (came + 1) (MV + dm) (insF F 0 came) (G2) (SP2) (RF) (RC) H)) (mC x0 x1 x2 x5 x6 x7) := by
  refine mu_of (cc := cX0_putFirst) (maxL := 2) (ret := (some .int)) (own := RX0) (by decide) rfl rfl (Nat.le_of_ble_eq_true rfl) ?_
  intro p e s m below meth c ls B hCP hl hS
  obtain ⟨hx, hb, hml, hr, hts, hown, hlocks⟩ := B
  obtain ⟨⟨hK, hZL, ⟨hstb, xs, hXL, hAL⟩, hTW⟩, f, g, sp, rf, rc, hAf, hAg, hAsp, hArf, hArc, hP, hDb⟩ := id hCP
  have hD := CW_mD hDb
  have hmb := mC_b hDb
  have hbl := CW_lt hCP.2
  have hSW0 := hCP.1
  have hl : lv_has ls 2 [(0, .ref x0)] := hl
  refine lv_aload_n hx hb dX0_putFirst_0 rfl (lv_at hl 0 rfl) ?_
  have hCP : CP D cI base st Z x0 x1 x2 x5 x6 x7 (n) (came) (MV) (F) (G) (SP) (RF) (RC) s s.heap := ⟨hSW0.behind hbl hmb hS, ⟨f, g, sp, rf, rc, hAf, hAg, hAsp, hArf, hArc, hP, hD.weaken (fun _ _ _ h => hmb _ h)⟩⟩
  refine pn_callV (As := []) (rest := []) CP_mv ⟨hx, hb, hml, hown, hts⟩ (c_requireThatOneMayCome l D cI base st Z x0 x1 x2 x5 x6 x7 (by omega) (by omega) (by omega)) (cwV 0 hts gX0_putFirst_X0_requireThatOneMayCome rfl rfl rfl (by decide +kernel) ⟨(Nat.le_of_ble_eq_true rfl), (Nat.le_of_ble_eq_true rfl)⟩) hCP (CP_rc hCP) rfl rfl hl.1 (Nat.le_of_ble_eq_true rfl) dX0_putFirst_1 ⟨Nat.zero_le _, Nat.zero_le _⟩ ?_
  refine lv_aload_n hx hb dX0_putFirst_4 rfl (lv_at hl 0 rfl) ?_
  have hCP : CP D cI base st Z x0 x1 x2 x5 x6 x7 (n) (came) (MV) (F) (G) (SP) (RF) (RC) s s.heap := ⟨hSW0.behind hbl hmb hS, ⟨f, g, sp, rf, rc, hAf, hAg, hAsp, hArf, hArc, hP, hD.weaken (fun _ _ _ h => hmb _ h)⟩⟩
  refine mu_callV (As := []) (rest := []) CP_mv ⟨hx, hb, hml, hown, hts⟩ (c_nextNumber l D cI base st Z x0 x1 x2 x5 x6 x7 ) (cwV 0 hts gX0_putFirst_X0_nextNumber rfl rfl rfl (by decide +kernel) ⟨(Nat.le_of_ble_eq_true rfl), (Nat.le_of_ble_eq_true rfl)⟩) hCP (CP_rc hCP) rfl rfl hl.1 (Nat.le_of_ble_eq_true rfl) dX0_putFirst_5 ⟨Nat.zero_le _, Nat.zero_le _⟩ hS (fun _ h => h) (fun H locs hC9 hz9 hk9 hS => ?_)
  have hC9 : CW D cI base x0 x1 x2 x5 x6 x7 (n) (came + 1) (MV) (F) (G) (SP) (RF) (RC) H := hC9
  obtain ⟨f, g, sp, rf, rc, hAf, hAg, hAsp, hArf, hArc, hP, hDb⟩ := hC9
  have hD := CW_mD hDb
  refine lv_istore_n (lv' := [(1, .int (iI (came))), (0, .ref x0)]) hx hb dX0_putFirst_8 rfl hl (by decide) rfl (fun ls hl => ?_)
  refine lv_aload_n hx hb dX0_putFirst_9 rfl (lv_at hl 1 rfl) ?_
  refine lv_iload_n hx hb dX0_putFirst_10 rfl (lv_at hl 0 rfl) ?_
  refine pv_iconst hx hb dX0_putFirst_11 ?_
  have hCP : CP D cI base st Z x0 x1 x2 x5 x6 x7 (n) (came + 1) (MV) (F) (G) (SP) (RF) (RC) s H := ⟨hSW0.behind hbl hmb hS, ⟨f, g, sp, rf, rc, hAf, hAg, hAsp, hArf, hArc, hP, hD.weaken (fun _ _ _ h => hmb _ h)⟩⟩
  refine mu_callV (As := [.int (iI (came)), .int (iI (0))]) (rest := []) CP_mv ⟨hx, hb, hml, hown, hts⟩ (c_putIn l D cI base st Z x0 x1 x2 x5 x6 x7 hn hG hs came 0 (by omega) G2 dm SP2 hPT) (cwV 2 hts gX0_putFirst_X0_putIn rfl rfl rfl (by decide +kernel) ⟨(Nat.le_of_ble_eq_true rfl), (Nat.le_of_ble_eq_true rfl)⟩) hCP (CP_rc hCP) rfl rfl hl.1 (Nat.le_of_ble_eq_true rfl) dX0_putFirst_12 ⟨Nat.zero_le _, Nat.zero_le _⟩ hS (fun _ h => h) (fun H locs hC9 hz9 hk9 hS => ?_)
  have hC9 : CW D cI base x0 x1 x2 x5 x6 x7 (n + 1) (came + 1) (MV + dm) (insF F 0 came) (G2) (SP2) (RF) (RC) H := hC9
  obtain ⟨f, g, sp, rf, rc, hAf, hAg, hAsp, hArf, hArc, hP, hDb⟩ := hC9
  have hD := CW_mD hDb
  refine lv_iload_n hx hb dX0_putFirst_15 rfl (lv_at hl 0 rfl) ?_
  exact mu_iret hx hb hr hlocks hS dX0_putFirst_16 (by rfl) ⟨f, g, sp, rf, rc, hAf, hAg, hAsp, hArf, hArc, hP, hD.weaken (fun _ _ _ h => hmb _ h)⟩
set_option maxHeartbeats 4000000 in
set_option maxRecDepth 100000 in
theorem t_putFirst (l : Launch) (D : va_G) (cI : ClassId) (base st : Nat) (Z : Nat → Nat) (x0 x1 x2 x5 x6 x7 : Nat) {n came MV : Int} {F G SP RF RC : Int → Int} (hfl : l.stackTraces = false) (hn : 0 ≤ n ∧ n ≤ 60) (hcm : 0 ≤ came ∧ came ≤ 200) (hfr : ¬ (came < 200 ∧ n < 60)) : th_M l yX0_putFirst wsX0_putFirst ({ frames := 7, cells := 1, slots := 6, locals := 112 } : Room) [.ref x0] (CP D cI base st Z x0 x1 x2 x5 x6 x7 n came MV F G SP RF RC) "java/lang/IllegalStateException" := by
  refine th_of (cc := cX0_putFirst) (maxL := 2) (ret := (some .int)) (own := RX0) (by decide) rfl rfl (Nat.le_of_ble_eq_true rfl) ?_
  intro p e s m below meth c ls B hno hCP hl
  obtain ⟨hx, hb, hml, hr, hts, hown, hlocks⟩ := B
  obtain ⟨⟨hK, hZL, ⟨hstb, xs, hXL, hAL⟩, hTW⟩, f, g, sp, rf, rc, hAf, hAg, hAsp, hArf, hArc, hP, hDb⟩ := id hCP
  have hl : lv_has ls 2 [(0, .ref x0)] := hl
  refine lv_aload_n hx hb dX0_putFirst_0 rfl (lv_at hl 0 rfl) ?_
  refine th_callV (As := []) (rest := []) CP_mv ⟨hx, hb, hml, hown, hts⟩ (t_requireThatOneMayCome l D cI base st Z x0 x1 x2 x5 x6 x7 hfl hn hcm hfr) (cwV 0 hts gX0_putFirst_X0_requireThatOneMayCome rfl rfl rfl (by decide +kernel) ⟨(Nat.le_of_ble_eq_true rfl), (Nat.le_of_ble_eq_true rfl)⟩) hCP (CP_rc hCP) rfl rfl hl.1 (Nat.le_of_ble_eq_true rfl) dX0_putFirst_1 ⟨(Nat.le_of_ble_eq_true rfl), (Nat.le_of_ble_eq_true rfl)⟩ (fun H1 ce q9 h1 h2 h3 h4 h5 => ?_)
  exact th_out hno hlocks h1 h2 h3 h4 h5
set_option maxHeartbeats 4000000 in
set_option maxRecDepth 100000 in
theorem c_putBehind (l : Launch) (D : va_G) (cI : ClassId) (base st : Nat) (Z : Nat → Nat) (x0 x1 x2 x5 x6 x7 : Nat) {n came MV : Int} {F G SP RF RC : Int → Int} (hn : 0 ≤ n ∧ n < 60) (hF : ∀ k : Int, 0 ≤ k → k < n → 0 ≤ F k ∧ F k < 200) (hG : ∀ k : Int, 0 ≤ k → k < n → 0 ≤ G k ∧ G k ≤ 255) (hs : SD G n) (hcm : 0 ≤ came ∧ came < 200) (x : Int) (hxr : (-2147483648 ≤ x ∧ x ≤ 2147483647)) (rp : Int) (hrp : PL F n x rp) (h0 : 0 ≤ rp) (G2 : Int → Int) (dm : Int) (SP2 : Int → Int) (hPT : PT G n (rp + 1) SP G2 dm SP2) : mu_M l yX0_putBehind wsX0_putBehind ({ frames := 6, cells := 0, slots := 0, locals := 139 } : Room) [.ref x0, .int (iI (x))] (CP D cI base st Z x0 x1 x2 x5 x6 x7 n came MV F G SP RF RC) (some (.int (iI came))) ((fun H => CW D cI base x0 x1 x2 x5 x6 x7 (n + 1) (came + 1) (MV + dm) (insF F (rp + 1) came) (G2) (SP2) (RF) (RC) H)) (mC x0 x1 x2 x5 x6 x7) := by
  refine mu_of (cc := cX0_putBehind) (maxL := 4) (ret := (some .int)) (own := RX0) (by decide) rfl rfl (Nat.le_of_ble_eq_true rfl) ?_
  intro p e s m below meth c ls B hCP hl hS
  obtain ⟨hx, hb, hml, hr, hts, hown, hlocks⟩ := B
  obtain ⟨⟨hK, hZL, ⟨hstb, xs, hXL, hAL⟩, hTW⟩, f, g, sp, rf, rc, hAf, hAg, hAsp, hArf, hArc, hP, hDb⟩ := id hCP
  have hD := CW_mD hDb
  have hmb := mC_b hDb
  have hbl := CW_lt hCP.2
  have hSW0 := hCP.1
  have hl : lv_has ls 4 [(0, .ref x0), (1, .int (iI (x)))] := hl
  refine lv_aload_n hx hb dX0_putBehind_0 rfl (lv_at hl 0 rfl) ?_
  refine lv_iload_n hx hb dX0_putBehind_1 rfl (lv_at hl 1 rfl) ?_
  have hpr := PL_rg hn.1 hrp
  have hCP : CP D cI base st Z x0 x1 x2 x5 x6 x7 (n) (came) (MV) (F) (G) (SP) (RF) (RC) s s.heap := ⟨hSW0.behind hbl hmb hS, ⟨f, g, sp, rf, rc, hAf, hAg, hAsp, hArf, hArc, hP, hD.weaken (fun _ _ _ h => hmb _ h)⟩⟩
  refine pu_callV (v := rp) (As := [.int (iI (x))]) (rest := []) CP_mv ⟨hx, hb, hml, hown, hts⟩ (c_requirePlace l D cI base st Z x0 x1 x2 x5 x6 x7 (by omega) hF x hxr rp hrp h0) (cwV 1 hts gX0_putBehind_X0_requirePlace rfl rfl rfl (by decide +kernel) ⟨(Nat.le_of_ble_eq_true rfl), (Nat.le_of_ble_eq_true rfl)⟩) hCP (CP_rc hCP) rfl rfl hl.1 (Nat.le_of_ble_eq_true rfl) dX0_putBehind_2 ⟨Nat.zero_le _, Nat.zero_le _⟩ ?_
  refine lv_istore_n (lv' := [(2, .int (iI (rp))), (0, .ref x0), (1, .int (iI (x)))]) hx hb dX0_putBehind_5 rfl hl (by decide) rfl (fun ls hl => ?_)
  refine lv_aload_n hx hb dX0_putBehind_6 rfl (lv_at hl 1 rfl) ?_
  have hCP : CP D cI base st Z x0 x1 x2 x5 x6 x7 (n) (came) (MV) (F) (G) (SP) (RF) (RC) s s.heap := ⟨hSW0.behind hbl hmb hS, ⟨f, g, sp, rf, rc, hAf, hAg, hAsp, hArf, hArc, hP, hD.weaken (fun _ _ _ h => hmb _ h)⟩⟩
  refine pn_callV (As := []) (rest := []) CP_mv ⟨hx, hb, hml, hown, hts⟩ (c_requireThatOneMayCome l D cI base st Z x0 x1 x2 x5 x6 x7 (by omega) (by omega) (by omega)) (cwV 0 hts gX0_putBehind_X0_requireThatOneMayCome rfl rfl rfl (by decide +kernel) ⟨(Nat.le_of_ble_eq_true rfl), (Nat.le_of_ble_eq_true rfl)⟩) hCP (CP_rc hCP) rfl rfl hl.1 (Nat.le_of_ble_eq_true rfl) dX0_putBehind_7 ⟨Nat.zero_le _, Nat.zero_le _⟩ ?_
  refine lv_aload_n hx hb dX0_putBehind_10 rfl (lv_at hl 1 rfl) ?_
  have hCP : CP D cI base st Z x0 x1 x2 x5 x6 x7 (n) (came) (MV) (F) (G) (SP) (RF) (RC) s s.heap := ⟨hSW0.behind hbl hmb hS, ⟨f, g, sp, rf, rc, hAf, hAg, hAsp, hArf, hArc, hP, hD.weaken (fun _ _ _ h => hmb _ h)⟩⟩
  refine mu_callV (As := []) (rest := []) CP_mv ⟨hx, hb, hml, hown, hts⟩ (c_nextNumber l D cI base st Z x0 x1 x2 x5 x6 x7 ) (cwV 0 hts gX0_putBehind_X0_nextNumber rfl rfl rfl (by decide +kernel) ⟨(Nat.le_of_ble_eq_true rfl), (Nat.le_of_ble_eq_true rfl)⟩) hCP (CP_rc hCP) rfl rfl hl.1 (Nat.le_of_ble_eq_true rfl) dX0_putBehind_11 ⟨Nat.zero_le _, Nat.zero_le _⟩ hS (fun _ h => h) (fun H locs hC9 hz9 hk9 hS => ?_)
  have hC9 : CW D cI base x0 x1 x2 x5 x6 x7 (n) (came + 1) (MV) (F) (G) (SP) (RF) (RC) H := hC9
  obtain ⟨f, g, sp, rf, rc, hAf, hAg, hAsp, hArf, hArc, hP, hDb⟩ := hC9
  have hD := CW_mD hDb
  refine lv_istore_n (lv' := [(3, .int (iI (came))), (2, .int (iI (rp))), (0, .ref x0), (1, .int (iI (x)))]) hx hb dX0_putBehind_14 rfl hl (by decide) rfl (fun ls hl => ?_)
  refine lv_aload_n hx hb dX0_putBehind_15 rfl (lv_at hl 2 rfl) ?_
  refine lv_iload_n hx hb dX0_putBehind_16 rfl (lv_at hl 0 rfl) ?_
  refine lv_iload_n hx hb dX0_putBehind_17 rfl (lv_at hl 1 rfl) ?_
  refine pv_iconst hx hb dX0_putBehind_18 ?_
  refine pv_iadd hx hb dX0_putBehind_19 ?_
  have hCP : CP D cI base st Z x0 x1 x2 x5 x6 x7 (n) (came + 1) (MV) (F) (G) (SP) (RF) (RC) s H := ⟨hSW0.behind hbl hmb hS, ⟨f, g, sp, rf, rc, hAf, hAg, hAsp, hArf, hArc, hP, hD.weaken (fun _ _ _ h => hmb _ h)⟩⟩
  refine mu_callV (As := [.int (iI (came)), .int (iI ((rp) + (1)))]) (rest := []) CP_mv ⟨hx, hb, hml, hown, hts⟩ (c_putIn l D cI base st Z x0 x1 x2 x5 x6 x7 hn hG hs came (rp + 1) (by omega) G2 dm SP2 hPT) (cwV 2 hts gX0_putBehind_X0_putIn rfl rfl rfl (by decide +kernel) ⟨(Nat.le_of_ble_eq_true rfl), (Nat.le_of_ble_eq_true rfl)⟩) hCP (CP_rc hCP) rfl rfl hl.1 (Nat.le_of_ble_eq_true rfl) dX0_putBehind_20 ⟨Nat.zero_le _, Nat.zero_le _⟩ hS (fun _ h => h) (fun H locs hC9 hz9 hk9 hS => ?_)
  have hC9 : CW D cI base x0 x1 x2 x5 x6 x7 (n + 1) (came + 1) (MV + dm) (insF F (rp + 1) came) (G2) (SP2) (RF) (RC) H := hC9
  obtain ⟨f, g, sp, rf, rc, hAf, hAg, hAsp, hArf, hArc, hP, hDb⟩ := hC9
  have hD := CW_mD hDb
  refine lv_iload_n hx hb dX0_putBehind_23 rfl (lv_at hl 0 rfl) ?_
  exact mu_iret hx hb hr hlocks hS dX0_putBehind_24 (by rfl) ⟨f, g, sp, rf, rc, hAf, hAg, hAsp, hArf, hArc, hP, hD.weaken (fun _ _ _ h => hmb _ h)⟩
set_option maxHeartbeats 4000000 in
set_option maxRecDepth 100000 in
theorem t_putBehind (l : Launch) (D : va_G) (cI : ClassId) (base st : Nat) (Z : Nat → Nat) (x0 x1 x2 x5 x6 x7 : Nat) {n came MV : Int} {F G SP RF RC : Int → Int} (hfl : l.stackTraces = false) (hn : 0 ≤ n ∧ n ≤ 60) (hF : ∀ k : Int, 0 ≤ k → k < n → 0 ≤ F k ∧ F k < 200) (x : Int) (hxr : (-2147483648 ≤ x ∧ x ≤ 2147483647)) (hrp : PL F n x (-1)) : th_M l yX0_putBehind wsX0_putBehind ({ frames := 7, cells := 1, slots := 6, locals := 114 } : Room) [.ref x0, .int (iI (x))] (CP D cI base st Z x0 x1 x2 x5 x6 x7 n came MV F G SP RF RC) "java/lang/IndexOutOfBoundsException" := by
  refine th_of (cc := cX0_putBehind) (maxL := 4) (ret := (some .int)) (own := RX0) (by decide) rfl rfl (Nat.le_of_ble_eq_true rfl) ?_
  intro p e s m below meth c ls B hno hCP hl
  obtain ⟨hx, hb, hml, hr, hts, hown, hlocks⟩ := B
  obtain ⟨⟨hK, hZL, ⟨hstb, xs, hXL, hAL⟩, hTW⟩, f, g, sp, rf, rc, hAf, hAg, hAsp, hArf, hArc, hP, hDb⟩ := id hCP
  have hl : lv_has ls 4 [(0, .ref x0), (1, .int (iI (x)))] := hl
  refine lv_aload_n hx hb dX0_putBehind_0 rfl (lv_at hl 0 rfl) ?_
  refine lv_iload_n hx hb dX0_putBehind_1 rfl (lv_at hl 1 rfl) ?_
  refine th_callV (As := [.int (iI (x))]) (rest := []) CP_mv ⟨hx, hb, hml, hown, hts⟩ (t_requirePlace l D cI base st Z x0 x1 x2 x5 x6 x7 hfl hn hF x hxr hrp) (cwV 1 hts gX0_putBehind_X0_requirePlace rfl rfl rfl (by decide +kernel) ⟨(Nat.le_of_ble_eq_true rfl), (Nat.le_of_ble_eq_true rfl)⟩) hCP (CP_rc hCP) rfl rfl hl.1 (Nat.le_of_ble_eq_true rfl) dX0_putBehind_2 ⟨(Nat.le_of_ble_eq_true rfl), (Nat.le_of_ble_eq_true rfl)⟩ (fun H1 ce q9 h1 h2 h3 h4 h5 => ?_)
  exact th_out hno hlocks h1 h2 h3 h4 h5
set_option maxHeartbeats 4000000 in
set_option maxRecDepth 100000 in
theorem t_putBehind2 (l : Launch) (D : va_G) (cI : ClassId) (base st : Nat) (Z : Nat → Nat) (x0 x1 x2 x5 x6 x7 : Nat) {n came MV : Int} {F G SP RF RC : Int → Int} (hfl : l.stackTraces = false) (hn : 0 ≤ n ∧ n ≤ 60) (hF : ∀ k : Int, 0 ≤ k → k < n → 0 ≤ F k ∧ F k < 200) (hcm : 0 ≤ came ∧ came ≤ 200) (x : Int) (hxr : (-2147483648 ≤ x ∧ x ≤ 2147483647)) (rp : Int) (hrp : PL F n x rp) (h0 : 0 ≤ rp) (hfr : ¬ (came < 200 ∧ n < 60)) : th_M l yX0_putBehind wsX0_putBehind ({ frames := 7, cells := 1, slots := 6, locals := 112 } : Room) [.ref x0, .int (iI (x))] (CP D cI base st Z x0 x1 x2 x5 x6 x7 n came MV F G SP RF RC) "java/lang/IllegalStateException" := by
  refine th_of (cc := cX0_putBehind) (maxL := 4) (ret := (some .int)) (own := RX0) (by decide) rfl rfl (Nat.le_of_ble_eq_true rfl) ?_
  intro p e s m below meth c ls B hno hCP hl
  obtain ⟨hx, hb, hml, hr, hts, hown, hlocks⟩ := B
  obtain ⟨⟨hK, hZL, ⟨hstb, xs, hXL, hAL⟩, hTW⟩, f, g, sp, rf, rc, hAf, hAg, hAsp, hArf, hArc, hP, hDb⟩ := id hCP
  have hl : lv_has ls 4 [(0, .ref x0), (1, .int (iI (x)))] := hl
  refine lv_aload_n hx hb dX0_putBehind_0 rfl (lv_at hl 0 rfl) ?_
  refine lv_iload_n hx hb dX0_putBehind_1 rfl (lv_at hl 1 rfl) ?_
  refine pu_callV (v := rp) (As := [.int (iI (x))]) (rest := []) CP_mv ⟨hx, hb, hml, hown, hts⟩ (c_requirePlace l D cI base st Z x0 x1 x2 x5 x6 x7 hn hF x hxr rp hrp h0) (cwV 1 hts gX0_putBehind_X0_requirePlace rfl rfl rfl (by decide +kernel) ⟨(Nat.le_of_ble_eq_true rfl), (Nat.le_of_ble_eq_true rfl)⟩) hCP (CP_rc hCP) rfl rfl hl.1 (Nat.le_of_ble_eq_true rfl) dX0_putBehind_2 ⟨Nat.zero_le _, Nat.zero_le _⟩ ?_
  refine lv_istore_n (lv' := [(2, .int (iI (rp))), (0, .ref x0), (1, .int (iI (x)))]) hx hb dX0_putBehind_5 rfl hl (by decide) rfl (fun ls hl => ?_)
  refine lv_aload_n hx hb dX0_putBehind_6 rfl (lv_at hl 1 rfl) ?_
  refine th_callV (As := []) (rest := []) CP_mv ⟨hx, hb, hml, hown, hts⟩ (t_requireThatOneMayCome l D cI base st Z x0 x1 x2 x5 x6 x7 hfl hn hcm hfr) (cwV 0 hts gX0_putBehind_X0_requireThatOneMayCome rfl rfl rfl (by decide +kernel) ⟨(Nat.le_of_ble_eq_true rfl), (Nat.le_of_ble_eq_true rfl)⟩) hCP (CP_rc hCP) rfl rfl hl.1 (Nat.le_of_ble_eq_true rfl) dX0_putBehind_7 ⟨(Nat.le_of_ble_eq_true rfl), (Nat.le_of_ble_eq_true rfl)⟩ (fun H1 ce q9 h1 h2 h3 h4 h5 => ?_)
  exact th_out hno hlocks h1 h2 h3 h4 h5
set_option maxHeartbeats 4000000 in
set_option maxRecDepth 100000 in
theorem c_takeOut (l : Launch) (D : va_G) (cI : ClassId) (base st : Nat) (Z : Nat → Nat) (x0 x1 x2 x5 x6 x7 : Nat) {n came MV : Int} {F G SP RF RC : Int → Int} (hn : 0 ≤ n ∧ n ≤ 60) (hF : ∀ k : Int, 0 ≤ k → k < n → 0 ≤ F k ∧ F k < 200) (hRF : ∀ k : Int, 0 ≤ k → k < 4 → -1 ≤ RF k ∧ RF k < 200) (x : Int) (hxr : (-2147483648 ≤ x ∧ x ≤ 2147483647)) (rp : Int) (hrp : PL F n x rp) (h0 : 0 ≤ rp) : mu_M l yX0_takeOut wsX0_takeOut ({ frames := 3, cells := 0, slots := 0, locals := 66 } : Room) [.ref x0, .int (iI (x))] (CP D cI base st Z x0 x1 x2 x5 x6 x7 n came MV F G SP RF RC) (some (.int (iI (n - 1)))) ((fun H => CW D cI base x0 x1 x2 x5 x6 x7 (n - 1) (came) (MV) (remF F rp) (remF G rp) (SP) (sendF RF x (fa F n (rp + 1))) (RC) H)) (mC x0 x1 x2 x5 x6 x7) := by
  refine mu_of (cc := cX0_takeOut) (maxL := 3) (ret := (some .int)) (own := RX0) (by decide) rfl rfl (Nat.le_of_ble_eq_true rfl) ?_
  intro p e s m below meth c ls B hCP hl hS
  obtain ⟨hx, hb, hml, hr, hts, hown, hlocks⟩ := B
  obtain ⟨⟨hK, hZL, ⟨hstb, xs, hXL, hAL⟩, hTW⟩, f, g, sp, rf, rc, hAf, hAg, hAsp, hArf, hArc, hP, hDb⟩ := id hCP
  have hD := CW_mD hDb
  have hmb := mC_b hDb
  have hbl := CW_lt hCP.2
  have hSW0 := hCP.1
  have hl : lv_has ls 3 [(0, .ref x0), (1, .int (iI (x)))] := hl
  have hin : ∀ w ∈ u_ws RX0 TX0 8, w ∈ wsX0_takeOut := by decide +kernel
  have q_count := hts (.fieldLink RX0 53 "ShelfMarks" "count" "I") (by decide +kernel)
  refine lv_aload_n hx hb dX0_takeOut_0 rfl (lv_at hl 0 rfl) ?_
  refine lv_iload_n hx hb dX0_takeOut_1 rfl (lv_at hl 1 rfl) ?_
  have hpr := PL_rg hn.1 hrp
  have hxx := PL_x hF h0 hrp
  have hCP : CP D cI base st Z x0 x1 x2 x5 x6 x7 (n) (came) (MV) (F) (G) (SP) (RF) (RC) s s.heap := ⟨hSW0.behind hbl hmb hS, ⟨f, g, sp, rf, rc, hAf, hAg, hAsp, hArf, hArc, hP, hD.weaken (fun _ _ _ h => hmb _ h)⟩⟩
  refine pu_callV (v := rp) (As := [.int (iI (x))]) (rest := []) CP_mv ⟨hx, hb, hml, hown, hts⟩ (c_requirePlace l D cI base st Z x0 x1 x2 x5 x6 x7 hn hF x hxr rp hrp h0) (cwV 1 hts gX0_takeOut_X0_requirePlace rfl rfl rfl (by decide +kernel) ⟨(Nat.le_of_ble_eq_true rfl), (Nat.le_of_ble_eq_true rfl)⟩) hCP (CP_rc hCP) rfl rfl hl.1 (Nat.le_of_ble_eq_true rfl) dX0_takeOut_2 ⟨Nat.zero_le _, Nat.zero_le _⟩ ?_
  refine lv_istore_n (lv' := [(2, .int (iI (rp))), (0, .ref x0), (1, .int (iI (x)))]) hx hb dX0_takeOut_5 rfl hl (by decide) rfl (fun ls hl => ?_)
  refine lv_aload_n hx hb dX0_takeOut_6 rfl (lv_at hl 1 rfl) ?_
  refine lv_iload_n hx hb dX0_takeOut_7 rfl (lv_at hl 2 rfl) ?_
  refine lv_aload_n hx hb dX0_takeOut_8 rfl (lv_at hl 1 rfl) ?_
  refine lv_iload_n hx hb dX0_takeOut_9 rfl (lv_at hl 0 rfl) ?_
  refine pv_iconst hx hb dX0_takeOut_10 ?_
  refine pv_iadd hx hb dX0_takeOut_11 ?_
  have hCP : CP D cI base st Z x0 x1 x2 x5 x6 x7 (n) (came) (MV) (F) (G) (SP) (RF) (RC) s s.heap := ⟨hSW0.behind hbl hmb hS, ⟨f, g, sp, rf, rc, hAf, hAg, hAsp, hArf, hArc, hP, hD.weaken (fun _ _ _ h => hmb _ h)⟩⟩
  refine pu_callV (v := fa F n (rp + 1)) (As := [.int (iI ((rp) + (1)))]) (rest := [.int (iI (x)), .ref x0]) CP_mv ⟨hx, hb, hml, hown, hts⟩ (c_folderAt l D cI base st Z x0 x1 x2 x5 x6 x7 hn (rp + 1) (by omega) _ rfl) (cwV 1 hts gX0_takeOut_X0_folderAt rfl rfl rfl (by decide +kernel) ⟨(Nat.le_of_ble_eq_true rfl), (Nat.le_of_ble_eq_true rfl)⟩) hCP (CP_rc hCP) rfl rfl hl.1 (Nat.le_of_ble_eq_true rfl) dX0_takeOut_12 ⟨Nat.zero_le _, Nat.zero_le _⟩ ?_
  have hCP : CP D cI base st Z x0 x1 x2 x5 x6 x7 (n) (came) (MV) (F) (G) (SP) (RF) (RC) s s.heap := ⟨hSW0.behind hbl hmb hS, ⟨f, g, sp, rf, rc, hAf, hAg, hAsp, hArf, hArc, hP, hD.weaken (fun _ _ _ h => hmb _ h)⟩⟩
  refine mu_callV (As := [.int (iI (x)), .int (iI (fa F n (rp + 1)))]) (rest := []) CP_mv ⟨hx, hb, hml, hown, hts⟩ (c_sendReadersOn l D cI base st Z x0 x1 x2 x5 x6 x7 hRF x (fa F n (rp + 1)) hxx) (cwV 2 hts gX0_takeOut_X0_sendReadersOn rfl rfl rfl (by decide +kernel) ⟨(Nat.le_of_ble_eq_true rfl), (Nat.le_of_ble_eq_true rfl)⟩) hCP (CP_rc hCP) rfl rfl hl.1 (Nat.le_of_ble_eq_true rfl) dX0_takeOut_15 ⟨Nat.zero_le _, Nat.zero_le _⟩ hS (fun _ h => h) (fun H locs hC9 hz9 hk9 hS => ?_)
  have hC9 : CW D cI base x0 x1 x2 x5 x6 x7 (n) (came) (MV) (F) (G) (SP) (sendF RF x (fa F n (rp + 1))) (RC) H := hC9
  obtain ⟨f, g, sp, rf, rc, hAf, hAg, hAsp, hArf, hArc, hP, hDb⟩ := hC9
  have hD := CW_mD hDb
  refine lv_aload_n hx hb dX0_takeOut_18 rfl (lv_at hl 1 rfl) ?_
  refine lv_iload_n hx hb dX0_takeOut_19 rfl (lv_at hl 0 rfl) ?_
  have hCP : CP D cI base st Z x0 x1 x2 x5 x6 x7 (n) (came) (MV) (F) (G) (SP) (sendF RF x (fa F n (rp + 1))) (RC) s H := ⟨hSW0.behind hbl hmb hS, ⟨f, g, sp, rf, rc, hAf, hAg, hAsp, hArf, hArc, hP, hD.weaken (fun _ _ _ h => hmb _ h)⟩⟩
  refine mu_callV (As := [.int (iI (rp))]) (rest := []) CP_mv ⟨hx, hb, hml, hown, hts⟩ (c_removeAt l D cI base st Z x0 x1 x2 x5 x6 x7 hn rp (by omega)) (cwV 1 hts gX0_takeOut_X0_removeAt rfl rfl rfl (by decide +kernel) ⟨(Nat.le_of_ble_eq_true rfl), (Nat.le_of_ble_eq_true rfl)⟩) hCP (CP_rc hCP) rfl rfl hl.1 (Nat.le_of_ble_eq_true rfl) dX0_takeOut_20 ⟨Nat.zero_le _, Nat.zero_le _⟩ hS (fun _ h => h) (fun H locs hC9 hz9 hk9 hS => ?_)
  have hC9 : CW D cI base x0 x1 x2 x5 x6 x7 (n - 1) (came) (MV) (remF F rp) (remF G rp) (SP) (sendF RF x (fa F n (rp + 1))) (RC) H := hC9
  obtain ⟨f, g, sp, rf, rc, hAf, hAg, hAsp, hArf, hArc, hP, hDb⟩ := hC9
  have hD := CW_mD hDb
  refine lv_aload_n hx hb dX0_takeOut_23 rfl (lv_at hl 1 rfl) ?_
  refine va_get (D := D) (ci := 0) (v := .int (iI (n - 1))) (C := RX0) (T := TX0) (N := 8) hx hb hts hin hown hK hP 0 rfl rfl 2 (by decide) q_count (fun _ h9 => h9) rfl dX0_takeOut_24 ?_
  exact mu_iret hx hb hr hlocks hS dX0_takeOut_27 (by rfl) ⟨f, g, sp, rf, rc, hAf, hAg, hAsp, hArf, hArc, hP, hD.weaken (fun _ _ _ h => hmb _ h)⟩
set_option maxHeartbeats 4000000 in
set_option maxRecDepth 100000 in
theorem t_takeOut (l : Launch) (D : va_G) (cI : ClassId) (base st : Nat) (Z : Nat → Nat) (x0 x1 x2 x5 x6 x7 : Nat) {n came MV : Int} {F G SP RF RC : Int → Int} (hfl : l.stackTraces = false) (hn : 0 ≤ n ∧ n ≤ 60) (hF : ∀ k : Int, 0 ≤ k → k < n → 0 ≤ F k ∧ F k < 200) (x : Int) (hxr : (-2147483648 ≤ x ∧ x ≤ 2147483647)) (hrp : PL F n x (-1)) : th_M l yX0_takeOut wsX0_takeOut ({ frames := 7, cells := 1, slots := 6, locals := 114 } : Room) [.ref x0, .int (iI (x))] (CP D cI base st Z x0 x1 x2 x5 x6 x7 n came MV F G SP RF RC) "java/lang/IndexOutOfBoundsException" := by
  refine th_of (cc := cX0_takeOut) (maxL := 3) (ret := (some .int)) (own := RX0) (by decide) rfl rfl (Nat.le_of_ble_eq_true rfl) ?_
  intro p e s m below meth c ls B hno hCP hl
  obtain ⟨hx, hb, hml, hr, hts, hown, hlocks⟩ := B
  obtain ⟨⟨hK, hZL, ⟨hstb, xs, hXL, hAL⟩, hTW⟩, f, g, sp, rf, rc, hAf, hAg, hAsp, hArf, hArc, hP, hDb⟩ := id hCP
  have hl : lv_has ls 3 [(0, .ref x0), (1, .int (iI (x)))] := hl
  refine lv_aload_n hx hb dX0_takeOut_0 rfl (lv_at hl 0 rfl) ?_
  refine lv_iload_n hx hb dX0_takeOut_1 rfl (lv_at hl 1 rfl) ?_
  refine th_callV (As := [.int (iI (x))]) (rest := []) CP_mv ⟨hx, hb, hml, hown, hts⟩ (t_requirePlace l D cI base st Z x0 x1 x2 x5 x6 x7 hfl hn hF x hxr hrp) (cwV 1 hts gX0_takeOut_X0_requirePlace rfl rfl rfl (by decide +kernel) ⟨(Nat.le_of_ble_eq_true rfl), (Nat.le_of_ble_eq_true rfl)⟩) hCP (CP_rc hCP) rfl rfl hl.1 (Nat.le_of_ble_eq_true rfl) dX0_takeOut_2 ⟨(Nat.le_of_ble_eq_true rfl), (Nat.le_of_ble_eq_true rfl)⟩ (fun H1 ce q9 h1 h2 h3 h4 h5 => ?_)
  exact th_out hno hlocks h1 h2 h3 h4 h5
set_option maxHeartbeats 4000000 in
set_option maxRecDepth 100000 in
theorem c_carry (l : Launch) (D : va_G) (cI : ClassId) (base st : Nat) (Z : Nat → Nat) (x0 x1 x2 x5 x6 x7 : Nat) {n came MV : Int} {F G SP RF RC : Int → Int} (hn : 0 ≤ n ∧ n ≤ 60) (hF : ∀ k : Int, 0 ≤ k → k < n → 0 ≤ F k ∧ F k < 200) (hG : ∀ k : Int, 0 ≤ k → k < n → 0 ≤ G k ∧ G k ≤ 255) (hs : SD G n) (x : Int) (hxr : (-2147483648 ≤ x ∧ x ≤ 2147483647)) (rp : Int) (hrp : PL F n x rp) (h0 : 0 ≤ rp) (y : Int) (hyr : (-2147483648 ≤ y ∧ y ≤ 2147483647)) (ro : Int) (hro : PL F n y ro) (h1 : 0 ≤ ro) (hne : x ≠ y) (rq : Int) (hrq : PL (remF F rp) (n - 1) y rq) (h2 : 0 ≤ rq) (hG1 : ∀ k : Int, 0 ≤ k → k < n - 1 → 0 ≤ remF G rp k ∧ remF G rp k ≤ 255) (hs1 : SD (remF G rp) (n - 1)) (hF1 : ∀ k : Int, 0 ≤ k → k < n - 1 → 0 ≤ remF F rp k ∧ remF F rp k < 200) (G2 : Int → Int) (dm : Int) (SP2 : Int → Int) (hPT : PT (remF G rp) (n - 1) (rq + 1) SP G2 dm SP2) (hF2 : ∀ k : Int, 0 ≤ k → k < n → 0 ≤ insF (remF F rp) (rq + 1) x k ∧ insF (remF F rp) (rq + 1) x k < 200) (hrz : PL (insF (remF F rp) (rq + 1) x) n x (rq + 1)) : mu_M l yX0_carry wsX0_carry ({ frames := 6, cells := 0, slots := 0, locals := 139 } : Room) [.ref x0, .int (iI (x)), .int (iI (y))] (CP D cI base st Z x0 x1 x2 x5 x6 x7 n came MV F G SP RF RC) (some (.int (iI (G2 (rq + 1))))) ((fun H => CW D cI base x0 x1 x2 x5 x6 x7 (n - 1 + 1) (came) (MV + dm) (insF (remF F rp) (rq + 1) x) (G2) (SP2) (RF) (RC) H)) (mC x0 x1 x2 x5 x6 x7) := by
  refine mu_of (cc := cX0_carry) (maxL := 4) (ret := (some .int)) (own := RX0) (by decide) rfl rfl (Nat.le_of_ble_eq_true rfl) ?_
  intro p e s m below meth c ls B hCP hl hS
  obtain ⟨hx, hb, hml, hr, hts, hown, hlocks⟩ := B
  obtain ⟨⟨hK, hZL, ⟨hstb, xs, hXL, hAL⟩, hTW⟩, f, g, sp, rf, rc, hAf, hAg, hAsp, hArf, hArc, hP, hDb⟩ := id hCP
  have hD := CW_mD hDb
  have hmb := mC_b hDb
  have hbl := CW_lt hCP.2
  have hSW0 := hCP.1
  have hl : lv_has ls 4 [(0, .ref x0), (1, .int (iI (x))), (2, .int (iI (y)))] := hl
  refine lv_aload_n hx hb dX0_carry_0 rfl (lv_at hl 0 rfl) ?_
  refine lv_iload_n hx hb dX0_carry_1 rfl (lv_at hl 1 rfl) ?_
  have hpr := PL_rg hn.1 hrp
  have hpo := PL_rg hn.1 hro
  have hpq := PL_rg (n := n - 1) (by omega) hrq
  have hCP : CP D cI base st Z x0 x1 x2 x5 x6 x7 (n) (came) (MV) (F) (G) (SP) (RF) (RC) s s.heap := ⟨hSW0.behind hbl hmb hS, ⟨f, g, sp, rf, rc, hAf, hAg, hAsp, hArf, hArc, hP, hD.weaken (fun _ _ _ h => hmb _ h)⟩⟩
  refine pu_callV (v := rp) (As := [.int (iI (x))]) (rest := []) CP_mv ⟨hx, hb, hml, hown, hts⟩ (c_requirePlace l D cI base st Z x0 x1 x2 x5 x6 x7 hn hF x hxr rp hrp h0) (cwV 1 hts gX0_carry_X0_requirePlace rfl rfl rfl (by decide +kernel) ⟨(Nat.le_of_ble_eq_true rfl), (Nat.le_of_ble_eq_true rfl)⟩) hCP (CP_rc hCP) rfl rfl hl.1 (Nat.le_of_ble_eq_true rfl) dX0_carry_2 ⟨Nat.zero_le _, Nat.zero_le _⟩ ?_
  refine lv_istore_n (lv' := [(3, .int (iI (rp))), (0, .ref x0), (1, .int (iI (x))), (2, .int (iI (y)))]) hx hb dX0_carry_5 rfl hl (by decide) rfl (fun ls hl => ?_)
  refine lv_aload_n hx hb dX0_carry_6 rfl (lv_at hl 1 rfl) ?_
  refine lv_iload_n hx hb dX0_carry_7 rfl (lv_at hl 3 rfl) ?_
  have hCP : CP D cI base st Z x0 x1 x2 x5 x6 x7 (n) (came) (MV) (F) (G) (SP) (RF) (RC) s s.heap := ⟨hSW0.behind hbl hmb hS, ⟨f, g, sp, rf, rc, hAf, hAg, hAsp, hArf, hArc, hP, hD.weaken (fun _ _ _ h => hmb _ h)⟩⟩
  refine pu_callV (v := ro) (As := [.int (iI (y))]) (rest := []) CP_mv ⟨hx, hb, hml, hown, hts⟩ (c_requirePlace l D cI base st Z x0 x1 x2 x5 x6 x7 hn hF y hyr ro hro h1) (cwV 1 hts gX0_carry_X0_requirePlace rfl rfl rfl (by decide +kernel) ⟨(Nat.le_of_ble_eq_true rfl), (Nat.le_of_ble_eq_true rfl)⟩) hCP (CP_rc hCP) rfl rfl hl.1 (Nat.le_of_ble_eq_true rfl) dX0_carry_8 ⟨Nat.zero_le _, Nat.zero_le _⟩ ?_
  refine lv_pop hx hb dX0_carry_11 rfl ?_
  refine lv_iload_n hx hb dX0_carry_12 rfl (lv_at hl 2 rfl) ?_
  refine lv_iload_n hx hb dX0_carry_13 rfl (lv_at hl 3 rfl) ?_
  refine pv_icmp_ne (tgt := 27) hx hb dX0_carry_14 (by decide) (by omega) (fun c_14 => ?_) (fun c_14 => ?_)
  · -- 14t
    refine lv_aload_n hx hb dX0_carry_27 rfl (lv_at hl 1 rfl) ?_
    refine lv_iload_n hx hb dX0_carry_28 rfl (lv_at hl 0 rfl) ?_
    have hCP : CP D cI base st Z x0 x1 x2 x5 x6 x7 (n) (came) (MV) (F) (G) (SP) (RF) (RC) s s.heap := ⟨hSW0.behind hbl hmb hS, ⟨f, g, sp, rf, rc, hAf, hAg, hAsp, hArf, hArc, hP, hD.weaken (fun _ _ _ h => hmb _ h)⟩⟩
    refine mu_callV (As := [.int (iI (rp))]) (rest := []) CP_mv ⟨hx, hb, hml, hown, hts⟩ (c_removeAt l D cI base st Z x0 x1 x2 x5 x6 x7 hn rp (by omega)) (cwV 1 hts gX0_carry_X0_removeAt rfl rfl rfl (by decide +kernel) ⟨(Nat.le_of_ble_eq_true rfl), (Nat.le_of_ble_eq_true rfl)⟩) hCP (CP_rc hCP) rfl rfl hl.1 (Nat.le_of_ble_eq_true rfl) dX0_carry_29 ⟨Nat.zero_le _, Nat.zero_le _⟩ hS (fun _ h => h) (fun H locs hC9 hz9 hk9 hS => ?_)
    have hC9 : CW D cI base x0 x1 x2 x5 x6 x7 (n - 1) (came) (MV) (remF F rp) (remF G rp) (SP) (RF) (RC) H := hC9
    obtain ⟨f, g, sp, rf, rc, hAf, hAg, hAsp, hArf, hArc, hP, hDb⟩ := hC9
    have hD := CW_mD hDb
    refine lv_aload_n hx hb dX0_carry_32 rfl (lv_at hl 1 rfl) ?_
    refine lv_iload_n hx hb dX0_carry_33 rfl (lv_at hl 2 rfl) ?_
    refine lv_aload_n hx hb dX0_carry_34 rfl (lv_at hl 1 rfl) ?_
    refine lv_iload_n hx hb dX0_carry_35 rfl (lv_at hl 3 rfl) ?_
    have hCP : CP D cI base st Z x0 x1 x2 x5 x6 x7 (n - 1) (came) (MV) (remF F rp) (remF G rp) (SP) (RF) (RC) s H := ⟨hSW0.behind hbl hmb hS, ⟨f, g, sp, rf, rc, hAf, hAg, hAsp, hArf, hArc, hP, hD.weaken (fun _ _ _ h => hmb _ h)⟩⟩
    refine pu_callV (v := rq) (As := [.int (iI (y))]) (rest := [.int (iI (x)), .ref x0]) CP_mv ⟨hx, hb, hml, hown, hts⟩ (c_placeOf l D cI base st Z x0 x1 x2 x5 x6 x7 (by omega) hF1 y hyr rq hrq) (cwV 1 hts gX0_carry_X0_placeOf rfl rfl rfl (by decide +kernel) ⟨(Nat.le_of_ble_eq_true rfl), (Nat.le_of_ble_eq_true rfl)⟩) hCP (CP_rc hCP) rfl rfl hl.1 (Nat.le_of_ble_eq_true rfl) dX0_carry_36 ⟨Nat.zero_le _, Nat.zero_le _⟩ ?_
    refine pv_iconst hx hb dX0_carry_39 ?_
    refine pv_iadd hx hb dX0_carry_40 ?_
    have hCP : CP D cI base st Z x0 x1 x2 x5 x6 x7 (n - 1) (came) (MV) (remF F rp) (remF G rp) (SP) (RF) (RC) s H := ⟨hSW0.behind hbl hmb hS, ⟨f, g, sp, rf, rc, hAf, hAg, hAsp, hArf, hArc, hP, hD.weaken (fun _ _ _ h => hmb _ h)⟩⟩
    refine mu_callV (As := [.int (iI (x)), .int (iI ((rq) + (1)))]) (rest := []) CP_mv ⟨hx, hb, hml, hown, hts⟩ (c_putIn l D cI base st Z x0 x1 x2 x5 x6 x7 (by omega) hG1 hs1 x (rq + 1) (by omega) G2 dm SP2 hPT) (cwV 2 hts gX0_carry_X0_putIn rfl rfl rfl (by decide +kernel) ⟨(Nat.le_of_ble_eq_true rfl), (Nat.le_of_ble_eq_true rfl)⟩) hCP (CP_rc hCP) rfl rfl hl.1 (Nat.le_of_ble_eq_true rfl) dX0_carry_41 ⟨Nat.zero_le _, Nat.zero_le _⟩ hS (fun _ h => h) (fun H locs hC9 hz9 hk9 hS => ?_)
    have hC9 : CW D cI base x0 x1 x2 x5 x6 x7 (n - 1 + 1) (came) (MV + dm) (insF (remF F rp) (rq + 1) x) (G2) (SP2) (RF) (RC) H := hC9
    obtain ⟨f, g, sp, rf, rc, hAf, hAg, hAsp, hArf, hArc, hP, hDb⟩ := hC9
    have hD := CW_mD hDb
    refine lv_aload_n hx hb dX0_carry_44 rfl (lv_at hl 1 rfl) ?_
    refine lv_aload_n hx hb dX0_carry_45 rfl (lv_at hl 1 rfl) ?_
    refine lv_iload_n hx hb dX0_carry_46 rfl (lv_at hl 2 rfl) ?_
    have hCP : CP D cI base st Z x0 x1 x2 x5 x6 x7 (n - 1 + 1) (came) (MV + dm) (insF (remF F rp) (rq + 1) x) (G2) (SP2) (RF) (RC) s H := ⟨hSW0.behind hbl hmb hS, ⟨f, g, sp, rf, rc, hAf, hAg, hAsp, hArf, hArc, hP, hD.weaken (fun _ _ _ h => hmb _ h)⟩⟩
    refine pu_callV (v := rq + 1) (As := [.int (iI (x))]) (rest := [.ref x0]) CP_mv ⟨hx, hb, hml, hown, hts⟩ (c_placeOf l D cI base st Z x0 x1 x2 x5 x6 x7 (by omega) (by rw [show n - 1 + 1 = n by omega]; exact hF2) x hxr (rq + 1) (by rw [show n - 1 + 1 = n by omega]; exact hrz)) (cwV 1 hts gX0_carry_X0_placeOf rfl rfl rfl (by decide +kernel) ⟨(Nat.le_of_ble_eq_true rfl), (Nat.le_of_ble_eq_true rfl)⟩) hCP (CP_rc hCP) rfl rfl hl.1 (Nat.le_of_ble_eq_true rfl) dX0_carry_47 ⟨Nat.zero_le _, Nat.zero_le _⟩ ?_
    have hCP : CP D cI base st Z x0 x1 x2 x5 x6 x7 (n - 1 + 1) (came) (MV + dm) (insF (remF F rp) (rq + 1) x) (G2) (SP2) (RF) (RC) s H := ⟨hSW0.behind hbl hmb hS, ⟨f, g, sp, rf, rc, hAf, hAg, hAsp, hArf, hArc, hP, hD.weaken (fun _ _ _ h => hmb _ h)⟩⟩
    refine pu_callV (v := G2 (rq + 1)) (As := [.int (iI (rq + 1))]) (rest := []) CP_mv ⟨hx, hb, hml, hown, hts⟩ (c_markAt l D cI base st Z x0 x1 x2 x5 x6 x7 (by omega) (rq + 1) (by omega) _ (ma_in (by omega))) (cwV 1 hts gX0_carry_X0_markAt rfl rfl rfl (by decide +kernel) ⟨(Nat.le_of_ble_eq_true rfl), (Nat.le_of_ble_eq_true rfl)⟩) hCP (CP_rc hCP) rfl rfl hl.1 (Nat.le_of_ble_eq_true rfl) dX0_carry_50 ⟨Nat.zero_le _, Nat.zero_le _⟩ ?_
    exact mu_iret hx hb hr hlocks hS dX0_carry_53 (by rfl) ⟨f, g, sp, rf, rc, hAf, hAg, hAsp, hArf, hArc, hP, hD.weaken (fun _ _ _ h => hmb _ h)⟩
  · exact absurd c_14 (by omega)
set_option maxHeartbeats 4000000 in
set_option maxRecDepth 100000 in
theorem t_carry (l : Launch) (D : va_G) (cI : ClassId) (base st : Nat) (Z : Nat → Nat) (x0 x1 x2 x5 x6 x7 : Nat) {n came MV : Int} {F G SP RF RC : Int → Int} (hfl : l.stackTraces = false) (hn : 0 ≤ n ∧ n ≤ 60) (hF : ∀ k : Int, 0 ≤ k → k < n → 0 ≤ F k ∧ F k < 200) (x : Int) (hxr : (-2147483648 ≤ x ∧ x ≤ 2147483647)) (hrp : PL F n x (-1)) (y : Int) : th_M l yX0_carry wsX0_carry ({ frames := 7, cells := 1, slots := 6, locals := 114 } : Room) [.ref x0, .int (iI (x)), .int (iI (y))] (CP D cI base st Z x0 x1 x2 x5 x6 x7 n came MV F G SP RF RC) "java/lang/IndexOutOfBoundsException" := by
  refine th_of (cc := cX0_carry) (maxL := 4) (ret := (some .int)) (own := RX0) (by decide) rfl rfl (Nat.le_of_ble_eq_true rfl) ?_
  intro p e s m below meth c ls B hno hCP hl
  obtain ⟨hx, hb, hml, hr, hts, hown, hlocks⟩ := B
  obtain ⟨⟨hK, hZL, ⟨hstb, xs, hXL, hAL⟩, hTW⟩, f, g, sp, rf, rc, hAf, hAg, hAsp, hArf, hArc, hP, hDb⟩ := id hCP
  have hl : lv_has ls 4 [(0, .ref x0), (1, .int (iI (x))), (2, .int (iI (y)))] := hl
  refine lv_aload_n hx hb dX0_carry_0 rfl (lv_at hl 0 rfl) ?_
  refine lv_iload_n hx hb dX0_carry_1 rfl (lv_at hl 1 rfl) ?_
  refine th_callV (As := [.int (iI (x))]) (rest := []) CP_mv ⟨hx, hb, hml, hown, hts⟩ (t_requirePlace l D cI base st Z x0 x1 x2 x5 x6 x7 hfl hn hF x hxr hrp) (cwV 1 hts gX0_carry_X0_requirePlace rfl rfl rfl (by decide +kernel) ⟨(Nat.le_of_ble_eq_true rfl), (Nat.le_of_ble_eq_true rfl)⟩) hCP (CP_rc hCP) rfl rfl hl.1 (Nat.le_of_ble_eq_true rfl) dX0_carry_2 ⟨(Nat.le_of_ble_eq_true rfl), (Nat.le_of_ble_eq_true rfl)⟩ (fun H1 ce q9 h1 h2 h3 h4 h5 => ?_)
  exact th_out hno hlocks h1 h2 h3 h4 h5
set_option maxHeartbeats 4000000 in
set_option maxRecDepth 100000 in
theorem t_carry2 (l : Launch) (D : va_G) (cI : ClassId) (base st : Nat) (Z : Nat → Nat) (x0 x1 x2 x5 x6 x7 : Nat) {n came MV : Int} {F G SP RF RC : Int → Int} (hfl : l.stackTraces = false) (hn : 0 ≤ n ∧ n ≤ 60) (hF : ∀ k : Int, 0 ≤ k → k < n → 0 ≤ F k ∧ F k < 200) (x : Int) (hxr : (-2147483648 ≤ x ∧ x ≤ 2147483647)) (rp : Int) (hrp : PL F n x rp) (h0 : 0 ≤ rp) (y : Int) (hyr : (-2147483648 ≤ y ∧ y ≤ 2147483647)) (hro : PL F n y (-1)) : th_M l yX0_carry wsX0_carry ({ frames := 7, cells := 1, slots := 6, locals := 114 } : Room) [.ref x0, .int (iI (x)), .int (iI (y))] (CP D cI base st Z x0 x1 x2 x5 x6 x7 n came MV F G SP RF RC) "java/lang/IndexOutOfBoundsException" := by
  refine th_of (cc := cX0_carry) (maxL := 4) (ret := (some .int)) (own := RX0) (by decide) rfl rfl (Nat.le_of_ble_eq_true rfl) ?_
  intro p e s m below meth c ls B hno hCP hl
  obtain ⟨hx, hb, hml, hr, hts, hown, hlocks⟩ := B
  obtain ⟨⟨hK, hZL, ⟨hstb, xs, hXL, hAL⟩, hTW⟩, f, g, sp, rf, rc, hAf, hAg, hAsp, hArf, hArc, hP, hDb⟩ := id hCP
  have hl : lv_has ls 4 [(0, .ref x0), (1, .int (iI (x))), (2, .int (iI (y)))] := hl
  refine lv_aload_n hx hb dX0_carry_0 rfl (lv_at hl 0 rfl) ?_
  refine lv_iload_n hx hb dX0_carry_1 rfl (lv_at hl 1 rfl) ?_
  refine pu_callV (v := rp) (As := [.int (iI (x))]) (rest := []) CP_mv ⟨hx, hb, hml, hown, hts⟩ (c_requirePlace l D cI base st Z x0 x1 x2 x5 x6 x7 hn hF x hxr rp hrp h0) (cwV 1 hts gX0_carry_X0_requirePlace rfl rfl rfl (by decide +kernel) ⟨(Nat.le_of_ble_eq_true rfl), (Nat.le_of_ble_eq_true rfl)⟩) hCP (CP_rc hCP) rfl rfl hl.1 (Nat.le_of_ble_eq_true rfl) dX0_carry_2 ⟨Nat.zero_le _, Nat.zero_le _⟩ ?_
  refine lv_istore_n (lv' := [(3, .int (iI (rp))), (0, .ref x0), (1, .int (iI (x))), (2, .int (iI (y)))]) hx hb dX0_carry_5 rfl hl (by decide) rfl (fun ls hl => ?_)
  refine lv_aload_n hx hb dX0_carry_6 rfl (lv_at hl 1 rfl) ?_
  refine lv_iload_n hx hb dX0_carry_7 rfl (lv_at hl 3 rfl) ?_
  refine th_callV (As := [.int (iI (y))]) (rest := []) CP_mv ⟨hx, hb, hml, hown, hts⟩ (t_requirePlace l D cI base st Z x0 x1 x2 x5 x6 x7 hfl hn hF y hyr hro) (cwV 1 hts gX0_carry_X0_requirePlace rfl rfl rfl (by decide +kernel) ⟨(Nat.le_of_ble_eq_true rfl), (Nat.le_of_ble_eq_true rfl)⟩) hCP (CP_rc hCP) rfl rfl hl.1 (Nat.le_of_ble_eq_true rfl) dX0_carry_8 ⟨(Nat.le_of_ble_eq_true rfl), (Nat.le_of_ble_eq_true rfl)⟩ (fun H1 ce q9 h1 h2 h3 h4 h5 => ?_)
  exact th_out hno hlocks h1 h2 h3 h4 h5
set_option maxHeartbeats 4000000 in
set_option maxRecDepth 100000 in
theorem t_carry3 (l : Launch) (D : va_G) (cI : ClassId) (base st : Nat) (Z : Nat → Nat) (x0 x1 x2 x5 x6 x7 : Nat) {n came MV : Int} {F G SP RF RC : Int → Int} (hfl : l.stackTraces = false) (hn : 0 ≤ n ∧ n ≤ 60) (hF : ∀ k : Int, 0 ≤ k → k < n → 0 ≤ F k ∧ F k < 200) (x : Int) (hxr : (-2147483648 ≤ x ∧ x ≤ 2147483647)) (rp : Int) (hrp : PL F n x rp) (h0 : 0 ≤ rp) : th_M l yX0_carry wsX0_carry ({ frames := 6, cells := 1, slots := 6, locals := 92 } : Room) [.ref x0, .int (iI (x)), .int (iI (x))] (CP D cI base st Z x0 x1 x2 x5 x6 x7 n came MV F G SP RF RC) "java/lang/IllegalArgumentException" := by
  refine th_of (cc := cX0_carry) (maxL := 4) (ret := (some .int)) (own := RX0) (by decide) rfl rfl (Nat.le_of_ble_eq_true rfl) ?_
  intro p e s m below meth c ls B hno hCP hl
  obtain ⟨hx, hb, hml, hr, hts, hown, hlocks⟩ := B
  obtain ⟨⟨hK, hZL, ⟨hstb, xs, hXL, hAL⟩, hTW⟩, f, g, sp, rf, rc, hAf, hAg, hAsp, hArf, hArc, hP, hDb⟩ := id hCP
  have hl : lv_has ls 4 [(0, .ref x0), (1, .int (iI (x))), (2, .int (iI (x)))] := hl
  refine lv_aload_n hx hb dX0_carry_0 rfl (lv_at hl 0 rfl) ?_
  refine lv_iload_n hx hb dX0_carry_1 rfl (lv_at hl 1 rfl) ?_
  refine pu_callV (v := rp) (As := [.int (iI (x))]) (rest := []) CP_mv ⟨hx, hb, hml, hown, hts⟩ (c_requirePlace l D cI base st Z x0 x1 x2 x5 x6 x7 hn hF x hxr rp hrp h0) (cwV 1 hts gX0_carry_X0_requirePlace rfl rfl rfl (by decide +kernel) ⟨(Nat.le_of_ble_eq_true rfl), (Nat.le_of_ble_eq_true rfl)⟩) hCP (CP_rc hCP) rfl rfl hl.1 (Nat.le_of_ble_eq_true rfl) dX0_carry_2 ⟨Nat.zero_le _, Nat.zero_le _⟩ ?_
  refine lv_istore_n (lv' := [(3, .int (iI (rp))), (0, .ref x0), (1, .int (iI (x))), (2, .int (iI (x)))]) hx hb dX0_carry_5 rfl hl (by decide) rfl (fun ls hl => ?_)
  refine lv_aload_n hx hb dX0_carry_6 rfl (lv_at hl 1 rfl) ?_
  refine lv_iload_n hx hb dX0_carry_7 rfl (lv_at hl 3 rfl) ?_
  refine pu_callV (v := rp) (As := [.int (iI (x))]) (rest := []) CP_mv ⟨hx, hb, hml, hown, hts⟩ (c_requirePlace l D cI base st Z x0 x1 x2 x5 x6 x7 hn hF x hxr rp hrp h0) (cwV 1 hts gX0_carry_X0_requirePlace rfl rfl rfl (by decide +kernel) ⟨(Nat.le_of_ble_eq_true rfl), (Nat.le_of_ble_eq_true rfl)⟩) hCP (CP_rc hCP) rfl rfl hl.1 (Nat.le_of_ble_eq_true rfl) dX0_carry_8 ⟨Nat.zero_le _, Nat.zero_le _⟩ ?_
  refine lv_pop hx hb dX0_carry_11 rfl ?_
  refine lv_iload_n hx hb dX0_carry_12 rfl (lv_at hl 2 rfl) ?_
  refine lv_iload_n hx hb dX0_carry_13 rfl (lv_at hl 3 rfl) ?_
  refine pv_icmp_ne (tgt := 27) hx hb dX0_carry_14 (by decide) (by omega) (fun c_14 => ?_) (fun c_14 => ?_)
  · exact absurd rfl c_14
  · -- 14f
    have hst : l.stackTraces = false := hfl
    obtain ⟨tw0, tw1, tw2, tw3, kw0, kw1, kw2, kd0, kd1, kd2, hU9, hN9⟩ := hTW
    have hgd : ∀ w ∈ (vx_atS RX0 61 "java/lang/IllegalArgumentException" ["java/lang/RuntimeException", "java/lang/Exception"]).filter goodWord, w ∈ wsX0_carry := by decide +kernel
    have hat : ∀ w ∈ vx_atS RX0 61 "java/lang/IllegalArgumentException" ["java/lang/RuntimeException", "java/lang/Exception"], w.before _ s = true := vx_hat (L := vx_atS RX0 61 "java/lang/IllegalArgumentException" ["java/lang/RuntimeException", "java/lang/Exception"]) (B := [.castable "java/lang/IllegalArgumentException" "java/lang/IllegalArgumentException", .declares (Bundle.initS "java/lang/RuntimeException"), .declares (Bundle.initS "java/lang/Exception"), .declares (Bundle.initS "java/lang/Throwable")]) (fun w hw => hts w (hgd w hw)) (by decide +kernel) (vx_c (va_Nw.use rfl kw2) (vx_c (va_Nw.use rfl kd0) (vx_c (va_Nw.use rfl kd1) (vx_c (va_Nw.use rfl kd2) vx_n))))
    exact vx_throwS (rest := []) (names := ["java/lang/RuntimeException", "java/lang/Exception"]) (cls := "java/lang/IllegalArgumentException") (A := fun q => base ≤ q) hx hb hst hown (by decide +kernel) (by decide +kernel) (hts (.classLink RX0 57 "java/lang/IllegalArgumentException") (by decide +kernel)) (hts (.initialized "java/lang/IllegalArgumentException") (by decide +kernel)) tw0 hat (by decide +kernel) hU9 hN9 va_S.rf (hl.1.trans hml.symm) dX0_carry_17 dX0_carry_20 dX0_carry_21 dX0_carry_23 dX0_carry_26 (fun x hx => (hno x hx).elim) (Nat.le_of_ble_eq_true rfl) (Nat.le_of_ble_eq_true rfl) (Nat.le_of_ble_eq_true rfl) (Nat.le_of_ble_eq_true rfl) hlocks (fun t _ h1 h2 => ⟨rfl, h1, h2⟩) (fun _ h => by cases h) (by omega) (by omega)
set_option maxHeartbeats 4000000 in
set_option maxRecDepth 100000 in
theorem c_seat (l : Launch) (D : va_G) (cI : ClassId) (base st : Nat) (Z : Nat → Nat) (x0 x1 x2 x5 x6 x7 : Nat) {n came MV : Int} {F G SP RF RC : Int → Int} (hn : 0 ≤ n ∧ n ≤ 60) (hF : ∀ k : Int, 0 ≤ k → k < n → 0 ≤ F k ∧ F k < 200) (hRF : ∀ k : Int, 0 ≤ k → k < 4 → -1 ≤ RF k ∧ RF k < 200) (u : Int) (hu : 0 ≤ u ∧ u < 4) (x : Int) (hxr : (-2147483648 ≤ x ∧ x ≤ 2147483647)) (rp : Int) (hrp : PL F n x rp) (h0 : 0 ≤ rp) : mu_M l yX0_seat wsX0_seat ({ frames := 2, cells := 0, slots := 0, locals := 44 } : Room) [.ref x0, .int (iI (u)), .int (iI (x))] (CP D cI base st Z x0 x1 x2 x5 x6 x7 n came MV F G SP RF RC) (some (.int (iI (cn (fun k => decide (uI RF u x k = x)) 4)))) ((fun H => CW D cI base x0 x1 x2 x5 x6 x7 (n) (came) (MV) (F) (G) (SP) (uI RF u x) (RC) H)) (mC x0 x1 x2 x5 x6 x7) := by
  refine mu_of (cc := cX0_seat) (maxL := 3) (ret := (some .int)) (own := RX0) (by decide) rfl rfl (Nat.le_of_ble_eq_true rfl) ?_
  intro p e s m below meth c ls B hCP hl hS
  obtain ⟨hx, hb, hml, hr, hts, hown, hlocks⟩ := B
  obtain ⟨⟨hK, hZL, ⟨hstb, xs, hXL, hAL⟩, hTW⟩, f, g, sp, rf, rc, hAf, hAg, hAsp, hArf, hArc, hP, hDb⟩ := id hCP
  have hD := CW_mD hDb
  have hmb := mC_b hDb
  have hbl := CW_lt hCP.2
  have hSW0 := hCP.1
  have hl : lv_has ls 3 [(0, .ref x0), (1, .int (iI (u))), (2, .int (iI (x)))] := hl
  have hin : ∀ w ∈ u_ws RX0 TX0 8, w ∈ wsX0_seat := by decide +kernel
  have q_readerFolders := hts (.fieldLink RX0 22 "ShelfMarks" "readerFolders" "[I") (by decide +kernel)
  refine lv_iload_n hx hb dX0_seat_0 rfl (lv_at hl 1 rfl) ?_
  refine pn_callS (As := [.int (iI (u))]) (rest := []) SP_mv ⟨hx, hb, hml, hown, hts⟩ (c_requireReader l D cI base st Z u hu) (va_cwS 1 hts gX0_seat_X0_requireReader rfl rfl rfl (by decide +kernel) ⟨(Nat.le_of_ble_eq_true rfl), (Nat.le_of_ble_eq_true rfl)⟩) (hSW0.behind hbl hmb hS) rfl rfl hl.1 (Nat.le_of_ble_eq_true rfl) dX0_seat_1 ⟨Nat.zero_le _, Nat.zero_le _⟩ ?_
  refine lv_aload_n hx hb dX0_seat_4 rfl (lv_at hl 0 rfl) ?_
  refine lv_iload_n hx hb dX0_seat_5 rfl (lv_at hl 2 rfl) ?_
  have hxx := PL_x hF h0 hrp
  have hCP : CP D cI base st Z x0 x1 x2 x5 x6 x7 (n) (came) (MV) (F) (G) (SP) (RF) (RC) s s.heap := ⟨hSW0.behind hbl hmb hS, ⟨f, g, sp, rf, rc, hAf, hAg, hAsp, hArf, hArc, hP, hD.weaken (fun _ _ _ h => hmb _ h)⟩⟩
  refine pu_callV (v := rp) (As := [.int (iI (x))]) (rest := []) CP_mv ⟨hx, hb, hml, hown, hts⟩ (c_requirePlace l D cI base st Z x0 x1 x2 x5 x6 x7 hn hF x hxr rp hrp h0) (cwV 1 hts gX0_seat_X0_requirePlace rfl rfl rfl (by decide +kernel) ⟨(Nat.le_of_ble_eq_true rfl), (Nat.le_of_ble_eq_true rfl)⟩) hCP (CP_rc hCP) rfl rfl hl.1 (Nat.le_of_ble_eq_true rfl) dX0_seat_6 ⟨Nat.zero_le _, Nat.zero_le _⟩ ?_
  refine lv_pop hx hb dX0_seat_9 rfl ?_
  refine lv_aload_n hx hb dX0_seat_10 rfl (lv_at hl 0 rfl) ?_
  refine va_get (D := D) (ci := 0) (v := .ref x6) (C := RX0) (T := TX0) (N := 8) hx hb hts hin hown hK hP 0 rfl rfl 6 (by decide) q_readerFolders (fun _ h9 => h9) rfl dX0_seat_11 ?_
  refine lv_iload_n hx hb dX0_seat_14 rfl (lv_at hl 1 rfl) ?_
  refine lv_iload_n hx hb dX0_seat_15 rfl (lv_at hl 2 rfl) ?_
  refine pv_iast (i := u) (v := x) hx hb hK hP hD hS 4 0 rfl rfl (by omega) (by decide) dX0_seat_16 (fun H locs hP hD hS => ?_)
  have hP : va_P D vwCl (W0 cI x0 x1 x2 x5 x6 x7 (n) (came) (MV) f g sp (upd rf (u).toNat (iI (x))) rc) H := hP
  have hD : va_D (mC x0 x1 x2 x5 x6 x7) (W0 cI x0 x1 x2 x5 x6 x7 (n) (came) (MV) f g sp (upd rf (u).toNat (iI (x))) rc) := hD
  have hArf := AR_up (k := u) (v := x) hArf (by omega)
  generalize upd rf (u).toNat (iI (x)) = rf at hP hD hArf
  refine lv_aload_n hx hb dX0_seat_17 rfl (lv_at hl 0 rfl) ?_
  refine lv_iload_n hx hb dX0_seat_18 rfl (lv_at hl 2 rfl) ?_
  have hCP : CP D cI base st Z x0 x1 x2 x5 x6 x7 (n) (came) (MV) (F) (G) (SP) (uI (RF) (u) (x)) (RC) s H := ⟨hSW0.behind hbl hmb hS, ⟨f, g, sp, rf, rc, hAf, hAg, hAsp, hArf, hArc, hP, hD.weaken (fun _ _ _ h => hmb _ h)⟩⟩
  refine pu_callV (v := cn (fun k => decide (uI RF u x k = x)) 4) (As := [.int (iI (x))]) (rest := []) CP_mv ⟨hx, hb, hml, hown, hts⟩ (c_readersAt l D cI base st Z x0 x1 x2 x5 x6 x7 (fun k h0 h1 => by unfold uI; split; omega; exact hRF k h0 h1) x hxr) (cwV 1 hts gX0_seat_X0_readersAt rfl rfl rfl (by decide +kernel) ⟨(Nat.le_of_ble_eq_true rfl), (Nat.le_of_ble_eq_true rfl)⟩) hCP (CP_rc hCP) rfl rfl hl.1 (Nat.le_of_ble_eq_true rfl) dX0_seat_19 ⟨Nat.zero_le _, Nat.zero_le _⟩ ?_
  exact mu_iret hx hb hr hlocks hS dX0_seat_22 (by rfl) ⟨f, g, sp, rf, rc, hAf, hAg, hAsp, hArf, hArc, hP, hD.weaken (fun _ _ _ h => hmb _ h)⟩
set_option maxHeartbeats 4000000 in
set_option maxRecDepth 100000 in
theorem t_seat (l : Launch) (D : va_G) (cI : ClassId) (base st : Nat) (Z : Nat → Nat) (x0 x1 x2 x5 x6 x7 : Nat) {n came MV : Int} {F G SP RF RC : Int → Int} (hfl : l.stackTraces = false) (u : Int) (hur : (-2147483648 ≤ u ∧ u ≤ 2147483647)) (hu : ¬ (0 ≤ u ∧ u < 4)) (x : Int) : th_M l yX0_seat wsX0_seat ({ frames := 7, cells := 1, slots := 6, locals := 112 } : Room) [.ref x0, .int (iI (u)), .int (iI (x))] (CP D cI base st Z x0 x1 x2 x5 x6 x7 n came MV F G SP RF RC) "java/lang/IndexOutOfBoundsException" := by
  refine th_of (cc := cX0_seat) (maxL := 3) (ret := (some .int)) (own := RX0) (by decide) rfl rfl (Nat.le_of_ble_eq_true rfl) ?_
  intro p e s m below meth c ls B hno hCP hl
  obtain ⟨hx, hb, hml, hr, hts, hown, hlocks⟩ := B
  obtain ⟨⟨hK, hZL, ⟨hstb, xs, hXL, hAL⟩, hTW⟩, f, g, sp, rf, rc, hAf, hAg, hAsp, hArf, hArc, hP, hDb⟩ := id hCP
  have hl : lv_has ls 3 [(0, .ref x0), (1, .int (iI (u))), (2, .int (iI (x)))] := hl
  refine lv_iload_n hx hb dX0_seat_0 rfl (lv_at hl 1 rfl) ?_
  refine th_callS (As := [.int (iI (u))]) (rest := []) SP_mv ⟨hx, hb, hml, hown, hts⟩ (t_requireReader l D cI base st Z hfl u hur hu) (va_cwS 1 hts gX0_seat_X0_requireReader rfl rfl rfl (by decide +kernel) ⟨(Nat.le_of_ble_eq_true rfl), (Nat.le_of_ble_eq_true rfl)⟩) hCP.1 rfl rfl hl.1 (Nat.le_of_ble_eq_true rfl) dX0_seat_1 ⟨(Nat.le_of_ble_eq_true rfl), (Nat.le_of_ble_eq_true rfl)⟩ (fun H1 ce q9 h1 h2 h3 h4 h5 => ?_)
  exact th_out hno hlocks h1 h2 h3 h4 h5
set_option maxHeartbeats 4000000 in
set_option maxRecDepth 100000 in
theorem t_seat2 (l : Launch) (D : va_G) (cI : ClassId) (base st : Nat) (Z : Nat → Nat) (x0 x1 x2 x5 x6 x7 : Nat) {n came MV : Int} {F G SP RF RC : Int → Int} (hfl : l.stackTraces = false) (hn : 0 ≤ n ∧ n ≤ 60) (hF : ∀ k : Int, 0 ≤ k → k < n → 0 ≤ F k ∧ F k < 200) (u : Int) (hu : 0 ≤ u ∧ u < 4) (x : Int) (hxr : (-2147483648 ≤ x ∧ x ≤ 2147483647)) (hrp : PL F n x (-1)) : th_M l yX0_seat wsX0_seat ({ frames := 7, cells := 1, slots := 6, locals := 114 } : Room) [.ref x0, .int (iI (u)), .int (iI (x))] (CP D cI base st Z x0 x1 x2 x5 x6 x7 n came MV F G SP RF RC) "java/lang/IndexOutOfBoundsException" := by
  refine th_of (cc := cX0_seat) (maxL := 3) (ret := (some .int)) (own := RX0) (by decide) rfl rfl (Nat.le_of_ble_eq_true rfl) ?_
  intro p e s m below meth c ls B hno hCP hl
  obtain ⟨hx, hb, hml, hr, hts, hown, hlocks⟩ := B
  obtain ⟨⟨hK, hZL, ⟨hstb, xs, hXL, hAL⟩, hTW⟩, f, g, sp, rf, rc, hAf, hAg, hAsp, hArf, hArc, hP, hDb⟩ := id hCP
  have hl : lv_has ls 3 [(0, .ref x0), (1, .int (iI (u))), (2, .int (iI (x)))] := hl
  refine lv_iload_n hx hb dX0_seat_0 rfl (lv_at hl 1 rfl) ?_
  refine pn_callS (As := [.int (iI (u))]) (rest := []) SP_mv ⟨hx, hb, hml, hown, hts⟩ (c_requireReader l D cI base st Z u hu) (va_cwS 1 hts gX0_seat_X0_requireReader rfl rfl rfl (by decide +kernel) ⟨(Nat.le_of_ble_eq_true rfl), (Nat.le_of_ble_eq_true rfl)⟩) hCP.1 rfl rfl hl.1 (Nat.le_of_ble_eq_true rfl) dX0_seat_1 ⟨Nat.zero_le _, Nat.zero_le _⟩ ?_
  refine lv_aload_n hx hb dX0_seat_4 rfl (lv_at hl 0 rfl) ?_
  refine lv_iload_n hx hb dX0_seat_5 rfl (lv_at hl 2 rfl) ?_
  refine th_callV (As := [.int (iI (x))]) (rest := []) CP_mv ⟨hx, hb, hml, hown, hts⟩ (t_requirePlace l D cI base st Z x0 x1 x2 x5 x6 x7 hfl hn hF x hxr hrp) (cwV 1 hts gX0_seat_X0_requirePlace rfl rfl rfl (by decide +kernel) ⟨(Nat.le_of_ble_eq_true rfl), (Nat.le_of_ble_eq_true rfl)⟩) hCP (CP_rc hCP) rfl rfl hl.1 (Nat.le_of_ble_eq_true rfl) dX0_seat_6 ⟨(Nat.le_of_ble_eq_true rfl), (Nat.le_of_ble_eq_true rfl)⟩ (fun H1 ce q9 h1 h2 h3 h4 h5 => ?_)
  exact th_out hno hlocks h1 h2 h3 h4 h5
set_option maxHeartbeats 4000000 in
set_option maxRecDepth 100000 in
theorem c_passDay (l : Launch) (D : va_G) (cI : ClassId) (base st : Nat) (Z : Nat → Nat) (x0 x1 x2 x5 x6 x7 : Nat) {n came MV : Int} {F G SP RF RC : Int → Int} (hn : 0 ≤ n ∧ n ≤ 60) (hF : ∀ k : Int, 0 ≤ k → k < n → 0 ≤ F k ∧ F k < 200) (hRF : ∀ k : Int, 0 ≤ k → k < 4 → -1 ≤ RF k ∧ RF k < 200) : mu_M l yX0_passDay wsX0_passDay ({ frames := 2, cells := 0, slots := 0, locals := 42 } : Room) [.ref x0] (CP D cI base st Z x0 x1 x2 x5 x6 x7 n came MV F G SP RF RC) (some (.int (iI (cn (fun j => decide (pdF F n RF j ≠ -1)) 4)))) ((fun H => CW D cI base x0 x1 x2 x5 x6 x7 (n) (came) (MV) (F) (G) (SP) (pdF F n RF) (pdC F n RF RC) H)) (mC x0 x1 x2 x5 x6 x7) := by
  refine mu_of (cc := cX0_passDay) (maxL := 4) (ret := (some .int)) (own := RX0) (by decide) rfl rfl (Nat.le_of_ble_eq_true rfl) ?_
  intro p e s m below meth c ls B hCP hl hS
  obtain ⟨hx, hb, hml, hr, hts, hown, hlocks⟩ := B
  obtain ⟨⟨hK, hZL, ⟨hstb, xs, hXL, hAL⟩, hTW⟩, f, g, sp, rf, rc, hAf, hAg, hAsp, hArf, hArc, hP, hDb⟩ := id hCP
  have hD := CW_mD hDb
  have hmb := mC_b hDb
  have hbl := CW_lt hCP.2
  have hSW0 := hCP.1
  have hl : lv_has ls 4 [(0, .ref x0)] := hl
  have hin : ∀ w ∈ u_ws RX0 TX0 8, w ∈ wsX0_passDay := by decide +kernel
  have q_readerFolders := hts (.fieldLink RX0 22 "ShelfMarks" "readerFolders" "[I") (by decide +kernel)
  have q_readerCounts := hts (.fieldLink RX0 25 "ShelfMarks" "readerCounts" "[I") (by decide +kernel)
  refine pv_iconst hx hb dX0_passDay_0 ?_
  refine lv_istore_n (lv' := [(1, .int (iI (0))), (0, .ref x0)]) hx hb dX0_passDay_1 rfl hl (by decide) rfl (fun ls hl => ?_)
  refine pv_iconst hx hb dX0_passDay_2 ?_
  refine lv_istore_n (lv' := [(2, .int (iI (0))), (1, .int (iI (0))), (0, .ref x0)]) hx hb dX0_passDay_3 rfl hl (by decide) rfl (fun ls hl => ?_)
  have hloop4 : ∀ (fuel : Nat) (fd : Int) (k : Int) (R2 : Int → Int) (C2 : Int → Int) (H : Heap) (locs : List Loc) (ls : Array Slot), (4 - k) < fuel → (0 ≤ k ∧ k ≤ 4) → (∀ j : Int, 0 ≤ j → j < k → R2 j = pdF F n RF j ∧ C2 j = pdC F n RF RC j) → (∀ j : Int, k ≤ j → j < 4 → R2 j = RF j ∧ C2 j = RC j) → (fd = cn (fun j => decide (pdF F n RF j ≠ -1)) k.toNat) → CW D cI base x0 x1 x2 x5 x6 x7 (n) (came) (MV) (F) (G) (SP) (R2) (C2) H → va_S (mC x0 x1 x2 x5 x6 x7) s.heap H locs → lv_has ls 4 [(0, .ref x0), (1, .int (iI (fd))), (2, .int (iI (k)))] → W p l e ({ frames := 2, cells := 0, slots := 0, locals := 42 } : Room) s m ([.ref x0] : List Value).toArray below meth c H locs 0 0 (MQ below (mu_Q (some (.int (iI (cn (fun j => decide (pdF F n RF j ≠ -1)) 4)))) ((fun H => CW D cI base x0 x1 x2 x5 x6 x7 (n) (came) (MV) (F) (G) (SP) (pdF F n RF) (pdC F n RF RC) H)) (mC x0 x1 x2 x5 x6 x7)) ([.ref x0] : List Value).toArray s 0 0 (mC x0 x1 x2 x5 x6 x7)) (F0 m 4 ls []) := by
    intro fuel
    induction fuel with
    | zero => intro fd k R2 C2 H locs ls hfu hk hRa hRb hfd hC9 hS hl; exfalso; omega
    | succ fuel ih =>
      intro fd k R2 C2 H locs ls hfu hk hRa hRb hfd hC9 hS hl
      obtain ⟨f, g, sp, rf, rc, hAf, hAg, hAsp, hArf, hArc, hP, hDb⟩ := hC9
      have hD := CW_mD hDb
      refine lv_iload_n hx hb dX0_passDay_4 rfl (lv_at hl 2 rfl) ?_
      refine pv_iconst hx hb dX0_passDay_5 ?_
      refine pv_icmp_ge (tgt := 67) hx hb dX0_passDay_6 (by decide) (by omega) (fun c_6 => ?_) (fun c_6 => ?_)
      · -- 6t
        refine lv_iload_n hx hb dX0_passDay_67 rfl (lv_at hl 1 rfl) ?_
        exact mu_iret hx hb hr hlocks hS dX0_passDay_68 (by rw [hfd, show k.toNat = 4 by omega]) ⟨f, g, sp, rf, rc, hAf, hAg, hAsp, AR_to hArf (Int.le_refl _) (fun j h0 h1 => (hRa j h0 (by omega)).1), AR_to hArc (Int.le_refl _) (fun j h0 h1 => (hRa j h0 (by omega)).2), hP, hD.weaken (fun _ _ _ h => hmb _ h)⟩
      · -- 6f
        refine lv_aload_n hx hb dX0_passDay_9 rfl (lv_at hl 0 rfl) ?_
        refine lv_aload_n hx hb dX0_passDay_10 rfl (lv_at hl 0 rfl) ?_
        refine va_get (D := D) (ci := 0) (v := .ref x6) (C := RX0) (T := TX0) (N := 8) hx hb hts hin hown hK hP 0 rfl rfl 6 (by decide) q_readerFolders (fun _ h9 => h9) rfl dX0_passDay_11 ?_
        refine lv_iload_n hx hb dX0_passDay_14 rfl (lv_at hl 2 rfl) ?_
        refine pv_iald (i := k) (v := RF (k)) hx hb hK hP 4 0 rfl rfl (by omega) (by decide) ((hArf _ (by omega) (by omega)).trans (congrArg iI ((hRb k (by omega) (by omega)).1))) dX0_passDay_15 ?_
        have hrk := hRF k (by omega) (by omega)
        have hpp := pl_PL (F := F) hn.1 (RF k)
        have hpr := PL_rg hn.1 hpp
        have hCP : CP D cI base st Z x0 x1 x2 x5 x6 x7 (n) (came) (MV) (F) (G) (SP) (R2) (C2) s H := ⟨hSW0.behind hbl hmb hS, ⟨f, g, sp, rf, rc, hAf, hAg, hAsp, hArf, hArc, hP, hD.weaken (fun _ _ _ h => hmb _ h)⟩⟩
        refine pu_callV (v := pl F n (RF k)) (As := [.int (iI (RF (k)))]) (rest := []) CP_mv ⟨hx, hb, hml, hown, hts⟩ (c_placeOf l D cI base st Z x0 x1 x2 x5 x6 x7 hn hF (RF k) (by omega) _ hpp) (cwV 1 hts gX0_passDay_X0_placeOf rfl rfl rfl (by decide +kernel) ⟨(Nat.le_of_ble_eq_true rfl), (Nat.le_of_ble_eq_true rfl)⟩) hCP (CP_rc hCP) rfl rfl hl.1 (Nat.le_of_ble_eq_true rfl) dX0_passDay_16 ⟨Nat.zero_le _, Nat.zero_le _⟩ ?_
        refine lv_istore_n (lv' := [(3, .int (iI (pl F n (RF k)))), (0, .ref x0), (1, .int (iI (fd))), (2, .int (iI (k)))]) hx hb dX0_passDay_19 rfl hl (by decide) rfl (fun ls hl => ?_)
        refine lv_iload_n hx hb dX0_passDay_20 rfl (lv_at hl 0 rfl) ?_
        refine pv_iconst hx hb dX0_passDay_21 ?_
        refine pv_icmp_eq (tgt := 48) hx hb dX0_passDay_22 (by decide) (by omega) (fun c_22 => ?_) (fun c_22 => ?_)
        · -- 22t
          refine lv_aload_n hx hb dX0_passDay_48 rfl (lv_at hl 1 rfl) ?_
          refine va_get (D := D) (ci := 0) (v := .ref x6) (C := RX0) (T := TX0) (N := 8) hx hb hts hin hown hK hP 0 rfl rfl 6 (by decide) q_readerFolders (fun _ h9 => h9) rfl dX0_passDay_49 ?_
          refine lv_iload_n hx hb dX0_passDay_52 rfl (lv_at hl 3 rfl) ?_
          refine pv_iald (i := k) (v := RF (k)) hx hb hK hP 4 0 rfl rfl (by omega) (by decide) ((hArf _ (by omega) (by omega)).trans (congrArg iI ((hRb k (by omega) (by omega)).1))) dX0_passDay_53 ?_
          refine pv_iconst hx hb dX0_passDay_54 ?_
          refine pv_icmp_eq (tgt := 61) hx hb dX0_passDay_55 (by decide) (by omega) (fun c_55 => ?_) (fun c_55 => ?_)
          · -- 55t
            refine pv_iinc (lv' := [(2, .int (iI (k + 1))), (3, .int (iI (pl F n (RF k)))), (0, .ref x0), (1, .int (iI (fd)))]) hx hb dX0_passDay_61 hl (k := 3) rfl (by decide) rfl (fun ls hl => ?_)
            refine lv_goto (tgt := 4) hx hb dX0_passDay_64 (by decide) ?_
            exact ih (fd) (k + 1) (_) (_) _ _ ls (by omega) (by omega) (fun j h0 h1 => by rcases (show j = k ∨ j < k by omega) with z | z; (rw [z]; unfold pdF pdC; rw [if_pos c_22, if_pos c_22]; exact hRb k (by omega) (by omega)); exact hRa j h0 z) (fun j h0 h1 => hRb j (by omega) h1) (by rw [hfd]; exact (cn_f _ (by omega) (decide_eq_false (by rw [(show pdF F n RF k = RF k by unfold pdF; rw [if_pos c_22])]; exact fun z => z c_55))).symm) ⟨f, g, sp, rf, rc, hAf, hAg, hAsp, hArf, hArc, hP, hD.weaken (fun _ _ _ h => hmb _ h)⟩ hS (lv_sub hl [2, 3, 0] rfl)
          · -- 55f
            refine pv_iinc (lv' := [(1, .int (iI (fd + 1))), (3, .int (iI (pl F n (RF k)))), (0, .ref x0), (2, .int (iI (k)))]) hx hb dX0_passDay_58 hl (k := 2) rfl (by decide) rfl (fun ls hl => ?_)
            refine pv_iinc (lv' := [(2, .int (iI (k + 1))), (1, .int (iI (fd + 1))), (3, .int (iI (pl F n (RF k)))), (0, .ref x0)]) hx hb dX0_passDay_61 hl (k := 3) rfl (by decide) rfl (fun ls hl => ?_)
            refine lv_goto (tgt := 4) hx hb dX0_passDay_64 (by decide) ?_
            exact ih (fd + 1) (k + 1) (_) (_) _ _ ls (by omega) (by omega) (fun j h0 h1 => by rcases (show j = k ∨ j < k by omega) with z | z; (rw [z]; unfold pdF pdC; rw [if_pos c_22, if_pos c_22]; exact hRb k (by omega) (by omega)); exact hRa j h0 z) (fun j h0 h1 => hRb j (by omega) h1) (by rw [hfd]; exact (cn_t _ (by omega) (decide_eq_true (by rw [(show pdF F n RF k = RF k by unfold pdF; rw [if_pos c_22])]; exact c_55))).symm) ⟨f, g, sp, rf, rc, hAf, hAg, hAsp, hArf, hArc, hP, hD.weaken (fun _ _ _ h => hmb _ h)⟩ hS (lv_sub hl [3, 1, 0] rfl)
        · -- 22f
          refine lv_aload_n hx hb dX0_passDay_25 rfl (lv_at hl 1 rfl) ?_
          refine va_get (D := D) (ci := 0) (v := .ref x7) (C := RX0) (T := TX0) (N := 8) hx hb hts hin hown hK hP 0 rfl rfl 7 (by decide) q_readerCounts (fun _ h9 => h9) rfl dX0_passDay_26 ?_
          refine lv_iload_n hx hb dX0_passDay_29 rfl (lv_at hl 3 rfl) ?_
          refine lv_dup2_11 hx hb dX0_passDay_30 rfl rfl ?_
          refine pv_iald (i := k) (v := RC (k)) hx hb hK hP 5 0 rfl rfl (by omega) (by decide) ((hArc _ (by omega) (by omega)).trans (congrArg iI ((hRb k (by omega) (by omega)).2))) dX0_passDay_31 ?_
          refine pv_iconst hx hb dX0_passDay_32 ?_
          refine pv_iadd hx hb dX0_passDay_33 ?_
          refine pv_iast (i := k) (v := (RC (k)) + (1)) hx hb hK hP hD hS 5 0 rfl rfl (by omega) (by decide) dX0_passDay_34 (fun H locs hP hD hS => ?_)
          have hP : va_P D vwCl (W0 cI x0 x1 x2 x5 x6 x7 (n) (came) (MV) f g sp rf (upd rc (k).toNat (iI ((RC (k)) + (1))))) H := hP
          have hD : va_D (mC x0 x1 x2 x5 x6 x7) (W0 cI x0 x1 x2 x5 x6 x7 (n) (came) (MV) f g sp rf (upd rc (k).toNat (iI ((RC (k)) + (1))))) := hD
          have hArc := AR_up (k := k) (v := (RC (k)) + (1)) hArc (by omega)
          generalize upd rc (k).toNat (iI ((RC (k)) + (1))) = rc at hP hD hArc
          refine lv_aload_n hx hb dX0_passDay_35 rfl (lv_at hl 1 rfl) ?_
          refine va_get (D := D) (ci := 0) (v := .ref x6) (C := RX0) (T := TX0) (N := 8) hx hb hts hin hown hK hP 0 rfl rfl 6 (by decide) q_readerFolders (fun _ h9 => h9) rfl dX0_passDay_36 ?_
          refine lv_iload_n hx hb dX0_passDay_39 rfl (lv_at hl 3 rfl) ?_
          refine lv_aload_n hx hb dX0_passDay_40 rfl (lv_at hl 1 rfl) ?_
          refine lv_iload_n hx hb dX0_passDay_41 rfl (lv_at hl 0 rfl) ?_
          refine pv_iconst hx hb dX0_passDay_42 ?_
          refine pv_iadd hx hb dX0_passDay_43 ?_
          have hfr := fa_rg hF (pl F n (RF k) + 1)
          have hCP : CP D cI base st Z x0 x1 x2 x5 x6 x7 (n) (came) (MV) (F) (G) (SP) (R2) (uI (C2) (k) ((RC (k)) + (1))) s H := ⟨hSW0.behind hbl hmb hS, ⟨f, g, sp, rf, rc, hAf, hAg, hAsp, hArf, hArc, hP, hD.weaken (fun _ _ _ h => hmb _ h)⟩⟩
          refine pu_callV (v := fa F n (pl F n (RF k) + 1)) (As := [.int (iI ((pl F n (RF k)) + (1)))]) (rest := [.int (iI (k)), .ref x6]) CP_mv ⟨hx, hb, hml, hown, hts⟩ (c_folderAt l D cI base st Z x0 x1 x2 x5 x6 x7 hn (pl F n (RF k) + 1) (by omega) _ rfl) (cwV 1 hts gX0_passDay_X0_folderAt rfl rfl rfl (by decide +kernel) ⟨(Nat.le_of_ble_eq_true rfl), (Nat.le_of_ble_eq_true rfl)⟩) hCP (CP_rc hCP) rfl rfl hl.1 (Nat.le_of_ble_eq_true rfl) dX0_passDay_44 ⟨Nat.zero_le _, Nat.zero_le _⟩ ?_
          refine pv_iast (i := k) (v := fa F n (pl F n (RF k) + 1)) hx hb hK hP hD hS 4 0 rfl rfl (by omega) (by decide) dX0_passDay_47 (fun H locs hP hD hS => ?_)
          have hP : va_P D vwCl (W0 cI x0 x1 x2 x5 x6 x7 (n) (came) (MV) f g sp (upd rf (k).toNat (iI (fa F n (pl F n (RF k) + 1)))) rc) H := hP
          have hD : va_D (mC x0 x1 x2 x5 x6 x7) (W0 cI x0 x1 x2 x5 x6 x7 (n) (came) (MV) f g sp (upd rf (k).toNat (iI (fa F n (pl F n (RF k) + 1)))) rc) := hD
          have hArf := AR_up (k := k) (v := fa F n (pl F n (RF k) + 1)) hArf (by omega)
          generalize upd rf (k).toNat (iI (fa F n (pl F n (RF k) + 1))) = rf at hP hD hArf
          refine lv_aload_n hx hb dX0_passDay_48 rfl (lv_at hl 1 rfl) ?_
          refine va_get (D := D) (ci := 0) (v := .ref x6) (C := RX0) (T := TX0) (N := 8) hx hb hts hin hown hK hP 0 rfl rfl 6 (by decide) q_readerFolders (fun _ h9 => h9) rfl dX0_passDay_49 ?_
          refine lv_iload_n hx hb dX0_passDay_52 rfl (lv_at hl 3 rfl) ?_
          refine pv_iald (i := k) (v := fa F n (pl F n (RF k) + 1)) hx hb hK hP 4 0 rfl rfl (by omega) (by decide) ((hArf _ (by omega) (by omega)).trans (congrArg iI uI_s)) dX0_passDay_53 ?_
          refine pv_iconst hx hb dX0_passDay_54 ?_
          refine pv_icmp_eq (tgt := 61) hx hb dX0_passDay_55 (by decide) (by omega) (fun c_55 => ?_) (fun c_55 => ?_)
          · -- 55t
            refine pv_iinc (lv' := [(2, .int (iI (k + 1))), (3, .int (iI (pl F n (RF k)))), (0, .ref x0), (1, .int (iI (fd)))]) hx hb dX0_passDay_61 hl (k := 3) rfl (by decide) rfl (fun ls hl => ?_)
            refine lv_goto (tgt := 4) hx hb dX0_passDay_64 (by decide) ?_
            exact ih (fd) (k + 1) (_) (_) _ _ ls (by omega) (by omega) (fun j h0 h1 => by unfold uI; rcases (show j = k ∨ j < k by omega) with z | z; (rw [if_pos z, if_pos z, z]; unfold pdF pdC; rw [if_neg c_22, if_neg c_22]; exact ⟨rfl, rfl⟩); (rw [if_neg (by omega), if_neg (by omega)]; exact hRa j h0 z)) (fun j h0 h1 => by unfold uI; rw [if_neg (by omega), if_neg (by omega)]; exact hRb j (by omega) h1) (by rw [hfd]; exact (cn_f _ (by omega) (decide_eq_false (by rw [(show pdF F n RF k = fa F n (pl F n (RF k) + 1) by unfold pdF; rw [if_neg c_22])]; exact fun z => z c_55))).symm) ⟨f, g, sp, rf, rc, hAf, hAg, hAsp, hArf, hArc, hP, hD.weaken (fun _ _ _ h => hmb _ h)⟩ hS (lv_sub hl [2, 3, 0] rfl)
          · -- 55f
            refine pv_iinc (lv' := [(1, .int (iI (fd + 1))), (3, .int (iI (pl F n (RF k)))), (0, .ref x0), (2, .int (iI (k)))]) hx hb dX0_passDay_58 hl (k := 2) rfl (by decide) rfl (fun ls hl => ?_)
            refine pv_iinc (lv' := [(2, .int (iI (k + 1))), (1, .int (iI (fd + 1))), (3, .int (iI (pl F n (RF k)))), (0, .ref x0)]) hx hb dX0_passDay_61 hl (k := 3) rfl (by decide) rfl (fun ls hl => ?_)
            refine lv_goto (tgt := 4) hx hb dX0_passDay_64 (by decide) ?_
            exact ih (fd + 1) (k + 1) (_) (_) _ _ ls (by omega) (by omega) (fun j h0 h1 => by unfold uI; rcases (show j = k ∨ j < k by omega) with z | z; (rw [if_pos z, if_pos z, z]; unfold pdF pdC; rw [if_neg c_22, if_neg c_22]; exact ⟨rfl, rfl⟩); (rw [if_neg (by omega), if_neg (by omega)]; exact hRa j h0 z)) (fun j h0 h1 => by unfold uI; rw [if_neg (by omega), if_neg (by omega)]; exact hRb j (by omega) h1) (by rw [hfd]; exact (cn_t _ (by omega) (decide_eq_true (by rw [(show pdF F n RF k = fa F n (pl F n (RF k) + 1) by unfold pdF; rw [if_neg c_22])]; exact c_55))).symm) ⟨f, g, sp, rf, rc, hAf, hAg, hAsp, hArf, hArc, hP, hD.weaken (fun _ _ _ h => hmb _ h)⟩ hS (lv_sub hl [3, 1, 0] rfl)
  exact hloop4 ((4 : Int).toNat + 1) (0) (0) (RF) (RC) _ _ ls (by omega) (by omega) (fun k h0 h1 => absurd h1 (by omega)) (fun k h0 h1 => ⟨rfl, rfl⟩) (rfl) ⟨f, g, sp, rf, rc, hAf, hAg, hAsp, hArf, hArc, hP, hD.weaken (fun _ _ _ h => hmb _ h)⟩ hS (lv_sub hl [2, 1, 0] rfl)
end
section
theorem PL_un {F : Int → Int} {n x r q : Int} (h : PL F n x r) (h2 : PL F n x q) : r = q := by
  rcases h with ⟨e, a⟩ | ⟨a1, a2, a3, a4⟩ <;> rcases h2 with ⟨e2, b⟩ | ⟨b1, b2, b3, b4⟩
  · omega
  · exact absurd b3 (a q b1 b2)
  · exact absurd a3 (b r a1 a2)
  · rcases (show r < q ∨ q < r ∨ r = q by omega) with z | z | z
    · exact absurd a3 (b4 r a1 z)
    · exact absurd b3 (a4 q b1 z)
    · exact z
/-! what a folder's coming does to the reference's rows -/
theorem insF_rg {F : Int → Int} {n q x : Int} (hF : ∀ k : Int, 0 ≤ k → k < n → 0 ≤ F k ∧ F k < 200) (hx : 0 ≤ x ∧ x < 200) (hq : 0 ≤ q ∧ q ≤ n) : ∀ k : Int, 0 ≤ k → k ≤ n → 0 ≤ insF F q x k ∧ insF F q x k < 200 := by
  intro k h0 h1
  unfold insF
  split
  · exact hF k h0 (by omega)
  · split
    · exact hx
    · exact hF (k - 1) (by omega) (by omega)
theorem insF_inj {F : Int → Int} {n q x : Int} (hFi : ∀ i j : Int, 0 ≤ i → i < n → 0 ≤ j → j < n → F i = F j → i = j) (hx : ∀ k : Int, 0 ≤ k → k < n → F k ≠ x) (hq : 0 ≤ q ∧ q ≤ n) : ∀ i j : Int, 0 ≤ i → i < n + 1 → 0 ≤ j → j < n + 1 → insF F q x i = insF F q x j → i = j := by
  intro i j h0 h1 h2 h3 h
  unfold insF at h
  rcases (show i < q ∨ i = q ∨ q < i by omega) with a | a | a <;> rcases (show j < q ∨ j = q ∨ q < j by omega) with b | b | b
  · rw [if_pos a, if_pos b] at h; exact hFi i j h0 (by omega) h2 (by omega) h
  · rw [if_pos a, if_neg (by omega), if_pos b] at h; exact absurd h (hx i h0 (by omega))
  · rw [if_pos a, if_neg (by omega), if_neg (by omega)] at h; have := hFi i (j - 1) h0 (by omega) (by omega) (by omega) h; omega
  · rw [if_neg (by omega), if_pos a, if_pos b] at h; exact absurd h.symm (hx j h2 (by omega))
  · omega
  · rw [if_neg (by omega), if_pos a, if_neg (by omega), if_neg (by omega)] at h; exact absurd h.symm (hx (j - 1) (by omega) (by omega))
  · rw [if_neg (by omega), if_neg (by omega), if_pos b] at h; have := hFi (i - 1) j (by omega) (by omega) h2 (by omega) h; omega
  · rw [if_neg (by omega), if_neg (by omega), if_neg (by omega), if_pos b] at h; exact absurd h (hx (i - 1) (by omega) (by omega))
  · rw [if_neg (by omega), if_neg (by omega), if_neg (by omega), if_neg (by omega)] at h; have := hFi (i - 1) (j - 1) (by omega) (by omega) (by omega) (by omega) h; omega
theorem PL_p {F : Int → Int} {n x rp : Int} (h : PL F n x rp) (h0 : 0 ≤ rp) : 0 ≤ rp ∧ rp < n ∧ F rp = x := by
  rcases h with ⟨e, -⟩ | ⟨a, b, c, -⟩
  · omega
  · exact ⟨a, b, c⟩
theorem rem_rg {F : Int → Int} {n rp : Int} {P : Int → Prop} (hF : ∀ k : Int, 0 ≤ k → k < n → P (F k)) (hr : 0 ≤ rp ∧ rp < n) : ∀ k : Int, 0 ≤ k → k < n - 1 → P (remF F rp k) := by
  intro k h0 h1
  unfold remF
  split
  · exact hF k h0 (by omega)
  · exact hF (k + 1) (by omega) (by omega)
theorem rem_inj {F : Int → Int} {n rp : Int} (hFi : ∀ i j : Int, 0 ≤ i → i < n → 0 ≤ j → j < n → F i = F j → i = j) (hr : 0 ≤ rp ∧ rp < n) : ∀ i j : Int, 0 ≤ i → i < n - 1 → 0 ≤ j → j < n - 1 → remF F rp i = remF F rp j → i = j := by
  intro i j h0 h1 h2 h3 h
  unfold remF at h
  split at h <;> split at h
  · exact hFi i j h0 (by omega) h2 (by omega) h
  · have := hFi i (j + 1) h0 (by omega) (by omega) (by omega) h; omega
  · have := hFi (i + 1) j (by omega) (by omega) h2 (by omega) h; omega
  · have := hFi (i + 1) (j + 1) (by omega) (by omega) (by omega) (by omega) h; omega
theorem rem_ne {F : Int → Int} {n rp : Int} (hFi : ∀ i j : Int, 0 ≤ i → i < n → 0 ≤ j → j < n → F i = F j → i = j) (hr : 0 ≤ rp ∧ rp < n) : ∀ k : Int, 0 ≤ k → k < n - 1 → remF F rp k ≠ F rp := by
  intro k h0 h1 h
  unfold remF at h
  split at h
  · have := hFi k rp h0 (by omega) hr.1 hr.2 h; omega
  · have := hFi (k + 1) rp (by omega) (by omega) hr.1 hr.2 h; omega
theorem rem_SD {G : Int → Int} {n rp : Int} (hs : SD G n) (hr : 0 ≤ rp ∧ rp < n) : SD (remF G rp) (n - 1) := by
  intro i j h0 h1 h2
  unfold remF
  split <;> split
  · exact hs i j h0 h1 (by omega)
  · exact hs i (j + 1) h0 (by omega) (by omega)
  · omega
  · exact hs (i + 1) (j + 1) (by omega) (by omega) (by omega)
theorem pl_m1 {F : Int → Int} {n x : Int} (hn : 0 ≤ n) (hF : ∀ k : Int, 0 ≤ k → k < n → 0 ≤ F k ∧ F k < 200) (hx : x = -1) : pl F n x = -1 := by
  rcases pl_PL (F := F) hn x with ⟨e, -⟩ | ⟨a1, a2, a3, -⟩
  · exact e
  · have := hF _ a1 a2; omega
theorem SD_inj {G : Int → Int} {n i j : Int} (hs : SD G n) (hi : 0 ≤ i ∧ i < n) (hj : 0 ≤ j ∧ j < n) (h : G i = G j) : i = j := by
  rcases (show i < j ∨ j < i ∨ i = j by omega) with z | z | z
  · have := hs i j hi.1 z hj.2; omega
  · have := hs j i hj.1 z hi.2; omega
  · exact z
/-! a folder that is lifted out and put in again -/
theorem rem_in {F : Int → Int} {n rp r x : Int} (hr : 0 ≤ rp ∧ rp < n) (hq : 0 ≤ r ∧ r < n ∧ F r = x) (hne : r ≠ rp) : ∃ j : Int, 0 ≤ j ∧ j < n - 1 ∧ remF F rp j = x := by
  rcases (show r < rp ∨ rp < r by omega) with z | z
  · exact ⟨r, hq.1, by omega, by unfold remF; rw [if_pos z, hq.2.2]⟩
  · exact ⟨r - 1, by omega, by omega, by unfold remF; rw [if_neg (by omega), show r - 1 + 1 = r by omega, hq.2.2]⟩
theorem ins_PL {F : Int → Int} {n q x N : Int} (hne : ∀ k : Int, 0 ≤ k → k < n → F k ≠ x) (hq : 0 ≤ q ∧ q ≤ n) (hN : q < N) : PL (insF F q x) N x q := by
  refine Or.inr ⟨hq.1, hN, ?_, fun k h0 h1 => ?_⟩
  · unfold insF
    rw [if_neg (by omega), if_pos rfl]
  · unfold insF
    rw [if_pos h1]
    exact hne k h0 (by omega)
/-! the whole invariant, and that it stays -/
def INV (n came : Int) (F G RF : Int → Int) : Prop := (0 ≤ n ∧ n ≤ 60) ∧ (0 ≤ came ∧ came ≤ 200) ∧ (∀ k : Int, 0 ≤ k → k < n → 0 ≤ F k ∧ F k < 200) ∧ (∀ k : Int, 0 ≤ k → k < n → F k < came) ∧ (∀ i j : Int, 0 ≤ i → i < n → 0 ≤ j → j < n → F i = F j → i = j) ∧ (∀ k : Int, 0 ≤ k → k < n → 0 ≤ G k ∧ G k ≤ 255) ∧ SD G n ∧ (∀ k : Int, 0 ≤ k → k < 4 → RF k = -1 ∨ ∃ j : Int, 0 ≤ j ∧ j < n ∧ F j = RF k)
theorem INV_RF {n came : Int} {F G RF : Int → Int} (h : INV n came F G RF) : ∀ k : Int, 0 ≤ k → k < 4 → -1 ≤ RF k ∧ RF k < 200 := by
  intro k h0 h1
  rcases h.2.2.2.2.2.2.2 k h0 h1 with e | ⟨j, a1, a2, a3⟩
  · omega
  · rw [← a3]; have := h.2.2.1 j a1 a2; omega
theorem pl_in {F : Int → Int} {n x : Int} (hn : 0 ≤ n) (h : ∃ j : Int, 0 ≤ j ∧ j < n ∧ F j = x) : 0 ≤ pl F n x := by
  obtain ⟨j, a1, a2, a3⟩ := h
  rcases pl_PL (F := F) hn x with ⟨-, e⟩ | ⟨b, -⟩
  · exact absurd a3 (e j a1 a2)
  · exact b
theorem INV_RI {n came : Int} {F G RF : Int → Int} (h : INV n came F G RF) : ∀ k : Int, 0 ≤ k → k < 4 → RF k = -1 ∨ 0 ≤ pl F n (RF k) := fun k h0 h1 => (h.2.2.2.2.2.2.2 k h0 h1).imp id (fun e => pl_in h.1.1 e)
theorem INV_pl {n came : Int} {F G RF : Int → Int} (h : INV n came F G RF) : ∀ k : Int, 0 ≤ k → k < 4 → RF k = -1 ∧ pl F n (RF k) = -1 ∨ RF k ≠ -1 ∧ 0 ≤ pl F n (RF k) := by
  intro k h0 h1
  by_cases e : RF k = -1
  · exact Or.inl ⟨e, pl_m1 h.1.1 h.2.2.1 e⟩
  · rcases INV_RI h k h0 h1 with z | z
    · exact absurd z e
    · exact Or.inr ⟨e, z⟩
theorem LM_p2 {lv : Int} (h : 1 ≤ lv ∧ lv < 8) : LM lv ≤ 2 ^ lv.toNat := by
  rcases (show lv = 1 ∨ lv = 2 ∨ lv = 3 ∨ lv = 4 ∨ lv = 5 ∨ lv = 6 ∨ lv = 7 by omega) with rfl | rfl | rfl | rfl | rfl | rfl | rfl <;> decide
theorem nm_lt {lo w t i j : Int} (ht : 1 ≤ t ∧ t ≤ w) (hi : 0 ≤ i) (hj : i < j) : nm lo w t i < nm lo w t j := by
  have h1 : i * w + t ≤ j * w := by
    have h2 : (i + 1) * w ≤ j * w := Int.mul_le_mul_of_nonneg_right (by omega) (by omega)
    rw [Int.add_mul, Int.one_mul] at h2
    omega
  have h3 : (i * w + t) / t ≤ j * w / t := Int.ediv_le_ediv (by omega) h1
  have h4 : (i * w + t) / t = i * w / t + 1 := by
    have := Int.add_mul_ediv_right (i * w) 1 (show t ≠ 0 by omega)
    rw [Int.one_mul] at this
    exact this
  unfold nm
  omega
theorem nm_hi {lo w t i : Int} (ht : 1 ≤ t ∧ t ≤ w) (hi : 0 ≤ i ∧ i < t) : lo ≤ nm lo w t i ∧ nm lo w t i < lo + w := by
  have h1 : i * w < w * t := by
    have h2 : (i + 1) * w ≤ t * w := Int.mul_le_mul_of_nonneg_right (by omega) (by omega)
    rw [Int.add_mul, Int.one_mul] at h2
    rw [Int.mul_comm w t]
    omega
  have h2 := Int.ediv_lt_of_lt_mul (show 0 < t by omega) h1
  have h3 := Int.ediv_nonneg (Int.mul_nonneg hi.1 (show 0 ≤ w by omega)) (show 0 ≤ t by omega)
  unfold nm
  omega
theorem SD_le {G : Int → Int} {n i j : Int} (hs : SD G n) (h0 : 0 ≤ i) (h1 : i ≤ j) (h2 : j < n) : G i ≤ G j := by
  rcases (show i < j ∨ i = j by omega) with z | z
  · have := hs i j h0 z h2; omega
  · rw [z]; omega
theorem ins_ok {G : Int → Int} {n q m : Int} (hG : ∀ k : Int, 0 ≤ k → k < n → 0 ≤ G k ∧ G k ≤ 255) (hs : SD G n) (hq : 0 ≤ q ∧ q ≤ n) (h1 : ma G n (q - 1) < m) (h2 : m < ma G n q) : (∀ k : Int, 0 ≤ k → k < n + 1 → 0 ≤ insF G q m k ∧ insF G q m k ≤ 255) ∧ SD (insF G q m) (n + 1) := by
  have hb1 := ma_rg hG (q - 1)
  have hb2 := ma_rg hG q
  have lo : ∀ i : Int, 0 ≤ i → i < q → G i < m := by
    intro i a1 a2
    have e := ma_in (G := G) (n := n) (v := q - 1) (by omega)
    have := SD_le hs a1 (show i ≤ q - 1 by omega) (by omega)
    omega
  have hi : ∀ i : Int, q ≤ i → i < n → m < G i := by
    intro i a1 a2
    have e := ma_in (G := G) (n := n) (v := q) (by omega)
    have := SD_le hs hq.1 a1 a2
    omega
  constructor
  · intro k h0 h3
    unfold insF
    split
    · exact hG k h0 (by omega)
    · split
      · omega
      · exact hG (k - 1) (by omega) (by omega)
  · intro i j h0 h3 h4
    unfold insF
    rcases (show i < q ∨ i = q ∨ q < i by omega) with a | a | a <;> rcases (show j < q ∨ j = q ∨ q < j by omega) with b | b | b
    · rw [if_pos a, if_pos b]; exact hs i j h0 h3 (by omega)
    · rw [if_pos a, if_neg (by omega), if_pos b]; exact lo i h0 a
    · rw [if_pos a, if_neg (by omega), if_neg (by omega)]; have := lo i h0 a; have := hi (j - 1) (by omega) (by omega); omega
    · omega
    · omega
    · rw [if_neg (by omega), if_pos a, if_neg (by omega), if_neg (by omega)]; exact hi (j - 1) (by omega) (by omega)
    · omega
    · omega
    · rw [if_neg (by omega), if_neg (by omega), if_neg (by omega), if_neg (by omega)]; exact hs (i - 1) (j - 1) (by omega) (by omega) (by omega)
theorem sp_ok {G : Int → Int} {n lo w : Int} (hn : 0 ≤ n) (hG : ∀ k : Int, 0 ≤ k → k < n → 0 ≤ G k ∧ G k ≤ 255) (hs : SD G n) (hlo : 0 ≤ lo ∧ lo + w ≤ 256 ∧ 1 ≤ w) (ht : mb G n (lo + w) - mb G n lo + 1 ≤ w) : (∀ k : Int, 0 ≤ k → k < n + 1 → 0 ≤ spG G lo w (mb G n lo) (mb G n (lo + w) - mb G n lo + 1) k ∧ spG G lo w (mb G n lo) (mb G n (lo + w) - mb G n lo + 1) k ≤ 255) ∧ SD (spG G lo w (mb G n lo) (mb G n (lo + w) - mb G n lo + 1)) (n + 1) := by
  obtain ⟨a1, a2, a3⟩ := mb_FI (G := G) lo hn hs
  obtain ⟨b1, b2, b3⟩ := mb_FI (G := G) (lo + w) hn hs
  have hmm := mb_mono (G := G) hn hs (show lo ≤ lo + w by omega)
  generalize mb G n lo = bg at *
  generalize mb G n (lo + w) = en at *
  have hN : ∀ i : Int, 0 ≤ i → i < en - bg + 1 → lo ≤ nm lo w (en - bg + 1) i ∧ nm lo w (en - bg + 1) i < lo + w := fun i c1 c2 => nm_hi ⟨by omega, ht⟩ ⟨c1, c2⟩
  have hE : ∀ i : Int, en ≤ i → i < n → lo + w ≤ G i := by
    intro i c1 c2
    have := b3 (by omega)
    have := SD_le hs b1.1 c1 c2
    omega
  constructor
  · intro k h0 h1
    unfold spG
    split
    · exact hG k h0 (by omega)
    · split
      · have := hN (k - bg) (by omega) (by omega); omega
      · exact hG (k - 1) (by omega) (by omega)
  · intro i j h0 h3 h4
    unfold spG
    rcases (show i < bg ∨ bg ≤ i ∧ i < bg + (en - bg + 1) ∨ bg + (en - bg + 1) ≤ i by omega) with a | a | a <;> rcases (show j < bg ∨ bg ≤ j ∧ j < bg + (en - bg + 1) ∨ bg + (en - bg + 1) ≤ j by omega) with b | b | b
    · rw [if_pos a, if_pos b]; exact hs i j h0 h3 (by omega)
    · rw [if_pos a, if_neg (by omega), if_pos b.2]; have := a2 i h0 a; have := hN (j - bg) (by omega) (by omega); omega
    · rw [if_pos a, if_neg (by omega), if_neg (by omega)]; have := a2 i h0 a; have := hE (j - 1) (by omega) (by omega); omega
    · omega
    · rw [if_neg (by omega), if_pos a.2, if_neg (by omega), if_pos b.2]; exact nm_lt ⟨by omega, ht⟩ (by omega) (by omega)
    · rw [if_neg (by omega), if_pos a.2, if_neg (by omega), if_neg (by omega)]; have := hN (i - bg) (by omega) (by omega); have := hE (j - 1) (by omega) (by omega); omega
    · omega
    · omega
    · rw [if_neg (by omega), if_neg (by omega), if_neg (by omega), if_neg (by omega)]; exact hs (i - 1) (j - 1) (by omega) (by omega) (by omega)
theorem PT_ok {G SP G2 SP2 : Int → Int} {n q dm : Int} (hn : 0 ≤ n ∧ n < 60) (hG : ∀ k : Int, 0 ≤ k → k < n → 0 ≤ G k ∧ G k ≤ 255) (hs : SD G n) (hq : 0 ≤ q ∧ q ≤ n) (h : PT G n q SP G2 dm SP2) : (∀ k : Int, 0 ≤ k → k < n + 1 → 0 ≤ G2 k ∧ G2 k ≤ 255) ∧ SD G2 (n + 1) := by
  have hb1 := ma_rg hG (q - 1)
  have hb2 := ma_rg hG q
  rcases h with ⟨h1, rfl, -, -⟩ | ⟨h1, lv, hlv, rfl, -, -⟩
  · exact ins_ok hG hs hq (by omega) (by omega)
  · have har := A0_rg hG hq
    have hlv1 := hlv.1
    have hsb := sh_b (lv := lv) har (by omega)
    have hp2 := p2_rg (lv := lv) (by omega)
    have hld := ldn_rg (G := G) (lv := lv) (sh := A0 G n q / 2 ^ lv.toNat) (n := n) (by omega) hs (by omega)
    have hle := mb_rg (G := G) (m := (A0 G n q / 2 ^ lv.toNat + 1) * 2 ^ lv.toNat) hn.1
    have hle2 := mb_rg (G := G) (m := A0 G n q / 2 ^ lv.toNat * 2 ^ lv.toNat) hn.1
    have e : A0 G n q / 2 ^ lv.toNat * 2 ^ lv.toNat + 2 ^ lv.toNat = (A0 G n q / 2 ^ lv.toNat + 1) * 2 ^ lv.toNat := by rw [Int.add_mul, Int.one_mul]
    have ht : ldn G n lv (A0 G n q / 2 ^ lv.toNat) + 1 ≤ 2 ^ lv.toNat := by
      rcases (show lv < 8 ∨ lv = 8 by omega) with z | z
      · have := hlv.2.2 z; have := LM_p2 (lv := lv) ⟨by omega, z⟩; omega
      · have : ldn G n lv (A0 G n q / 2 ^ lv.toNat) ≤ n := by unfold ldn; omega
        have : (2 : Int) ^ lv.toNat = 256 := by rw [z]; decide
        omega
    have := sp_ok (G := G) (n := n) (lo := A0 G n q / 2 ^ lv.toNat * 2 ^ lv.toNat) (w := 2 ^ lv.toNat) hn.1 hG hs ⟨by omega, by omega, by omega⟩ (by rw [e]; exact ht)
    rw [e] at this
    exact this
theorem LV_ex (G : Int → Int) (n a : Int) : ∃ r, LV G n a r := by
  have key : ∀ m : Nat, m ≤ 7 → (∃ r, LV G n a r) ∨ (∀ j : Int, 1 ≤ j → j ≤ m → LM j ≤ ldn G n j (a / 2 ^ j.toNat)) := by
    intro m
    induction m with
    | zero => intro _; exact Or.inr (fun j h0 h1 => by omega)
    | succ m ih =>
      intro hm
      rcases ih (by omega) with h | h
      · exact Or.inl h
      · by_cases e : LM ((m : Int) + 1) ≤ ldn G n ((m : Int) + 1) (a / 2 ^ ((m : Int) + 1).toNat)
        · refine Or.inr (fun j h0 h1 => ?_)
          rcases (show j ≤ m ∨ j = (m : Int) + 1 by omega) with z | z
          · exact h j h0 z
          · rw [z]; exact e
        · exact Or.inl ⟨(m : Int) + 1, ⟨by omega, by omega⟩, fun j h0 h1 => h j h0 (by omega), fun _ => by omega⟩
  rcases key 7 (Nat.le_refl _) with h | h
  · exact h
  · exact ⟨8, ⟨by omega, by omega⟩, fun j h0 h1 => h j h0 (by omega), fun h => by omega⟩
theorem PT_ex (G : Int → Int) (n q : Int) (SP : Int → Int) : ∃ G2 dm SP2, PT G n q SP G2 dm SP2 := by
  by_cases h : 2 ≤ ma G n q - ma G n (q - 1)
  · exact ⟨_, _, _, Or.inl ⟨h, rfl, rfl, rfl⟩⟩
  · obtain ⟨lv, hlv⟩ := LV_ex G n (A0 G n q)
    exact ⟨_, _, _, Or.inr ⟨by omega, lv, hlv, rfl, rfl, rfl⟩⟩
theorem INV_put {n came q dm : Int} {F G RF SP G2 SP2 : Int → Int} (h : INV n came F G RF) (hn : n < 60) (hc : came < 200) (hq : 0 ≤ q ∧ q ≤ n) (hPT : PT G n q SP G2 dm SP2) : INV (n + 1) (came + 1) (insF F q came) G2 RF := by
  obtain ⟨h1, h2, h3, h4, h5, h6, h7, h8⟩ := h
  obtain ⟨g1, g2⟩ := PT_ok ⟨h1.1, hn⟩ h6 h7 hq hPT
  have hne : ∀ k : Int, 0 ≤ k → k < n → F k ≠ came := fun k a b => by have := h4 k a b; omega
  refine ⟨by omega, by omega, fun k a b => insF_rg h3 (by omega) hq k a (by omega), fun k a b => ?_, insF_inj h5 hne hq, g1, g2, fun k a b => ?_⟩
  · unfold insF
    split
    · have := h4 k a (by omega); omega
    · split
      · omega
      · have := h4 (k - 1) (by omega) (by omega); omega
  · rcases h8 k a b with e | ⟨j, c1, c2, c3⟩
    · exact Or.inl e
    · rcases (show j < q ∨ q ≤ j by omega) with z | z
      · exact Or.inr ⟨j, c1, by omega, by unfold insF; rw [if_pos z, c3]⟩
      · exact Or.inr ⟨j + 1, by omega, by omega, by unfold insF; rw [if_neg (by omega), if_neg (by omega), show j + 1 - 1 = j by omega, c3]⟩
theorem INV_take {n came x rp : Int} {F G RF : Int → Int} (h : INV n came F G RF) (hr : 0 ≤ rp ∧ rp < n ∧ F rp = x) : INV (n - 1) came (remF F rp) (remF G rp) (sendF RF x (fa F n (rp + 1))) := by
  obtain ⟨h1, h2, h3, h4, h5, h6, h7, h8⟩ := h
  obtain ⟨r1, r2, r3⟩ := hr
  refine ⟨by omega, h2, rem_rg (P := fun z => 0 ≤ z ∧ z < 200) h3 ⟨r1, r2⟩, rem_rg (P := fun z => z < came) h4 ⟨r1, r2⟩, rem_inj h5 ⟨r1, r2⟩, rem_rg (P := fun z => 0 ≤ z ∧ z ≤ 255) h6 ⟨r1, r2⟩, rem_SD h7 ⟨r1, r2⟩, fun k a b => ?_⟩
  have hj : ∀ j : Int, 0 ≤ j → j < n → j ≠ rp → ∃ i : Int, 0 ≤ i ∧ i < n - 1 ∧ remF F rp i = F j := by
    intro j c1 c2 c3
    rcases (show j < rp ∨ rp < j by omega) with z | z
    · exact ⟨j, c1, by omega, by unfold remF; rw [if_pos z]⟩
    · exact ⟨j - 1, by omega, by omega, by unfold remF; rw [if_neg (by omega), show j - 1 + 1 = j by omega]⟩
  unfold sendF
  by_cases e : RF k = x
  · rw [if_pos e]
    unfold fa
    by_cases z : 0 ≤ rp + 1 ∧ rp + 1 < n
    · rw [if_pos z]; exact Or.inr (hj (rp + 1) z.1 z.2 (by omega))
    · rw [if_neg z]; exact Or.inl rfl
  · rw [if_neg e]
    rcases h8 k a b with e2 | ⟨j, c1, c2, c3⟩
    · exact Or.inl e2
    · rw [← c3]
      exact Or.inr (hj j c1 c2 (fun z => e (by rw [← c3, z, r3])))
theorem carry_ex {n x rp q : Int} {F : Int → Int} (hr : 0 ≤ rp ∧ rp < n ∧ F rp = x) (hq : 0 ≤ q ∧ q ≤ n - 1) : ∀ k : Int, 0 ≤ k → k < n → ∃ j : Int, 0 ≤ j ∧ j < n ∧ insF (remF F rp) q x j = F k := by
  obtain ⟨r1, r2, r3⟩ := hr
  intro k a1 a2
  rcases (show k < rp ∨ k = rp ∨ rp < k by omega) with z | z | z
  · rcases (show k < q ∨ q ≤ k by omega) with y | y
    · exact ⟨k, a1, by omega, by unfold insF remF; rw [if_pos y, if_pos z]⟩
    · refine ⟨k + 1, by omega, by omega, ?_⟩
      unfold insF
      rw [if_neg (by omega), if_neg (by omega), show k + 1 - 1 = k by omega]
      unfold remF
      rw [if_pos z]
  · refine ⟨q, by omega, by omega, ?_⟩
    unfold insF
    rw [if_neg (by omega), if_pos rfl, z, r3]
  · rcases (show k - 1 < q ∨ q ≤ k - 1 by omega) with y | y
    · refine ⟨k - 1, by omega, by omega, ?_⟩
      unfold insF
      rw [if_pos y]
      unfold remF
      rw [if_neg (by omega), show k - 1 + 1 = k by omega]
    · refine ⟨k, by omega, by omega, ?_⟩
      unfold insF
      rw [if_neg (by omega), if_neg (by omega)]
      unfold remF
      rw [if_neg (by omega), show k - 1 + 1 = k by omega]
theorem INV_carry {n came x rp q dm : Int} {F G RF SP G2 SP2 : Int → Int} (h : INV n came F G RF) (hr : 0 ≤ rp ∧ rp < n ∧ F rp = x) (hq : 0 ≤ q ∧ q ≤ n - 1) (hPT : PT (remF G rp) (n - 1) q SP G2 dm SP2) : INV n came (insF (remF F rp) q x) G2 RF := by
  obtain ⟨h1, h2, h3, h4, h5, h6, h7, h8⟩ := h
  have hr0 := hr
  obtain ⟨r1, r2, r3⟩ := hr
  have hx : 0 ≤ x ∧ x < 200 := by rw [← r3]; exact h3 rp r1 r2
  have hxc : x < came := by rw [← r3]; exact h4 rp r1 r2
  obtain ⟨g1, g2⟩ := PT_ok (n := n - 1) ⟨by omega, by omega⟩ (rem_rg (P := fun z => 0 ≤ z ∧ z ≤ 255) h6 ⟨r1, r2⟩) (rem_SD h7 ⟨r1, r2⟩) hq hPT
  rw [show n - 1 + 1 = n by omega] at g1 g2
  have hi := insF_inj (n := n - 1) (q := q) (x := x) (rem_inj h5 ⟨r1, r2⟩) (by rw [← r3]; exact rem_ne h5 ⟨r1, r2⟩) hq
  rw [show n - 1 + 1 = n by omega] at hi
  refine ⟨h1, h2, fun k a b => insF_rg (n := n - 1) (rem_rg (P := fun z => 0 ≤ z ∧ z < 200) h3 ⟨r1, r2⟩) hx hq k a (by omega), fun k a b => ?_, hi, g1, g2, fun k a b => ?_⟩
  · have hc := rem_rg (P := fun z => z < came) h4 ⟨r1, r2⟩
    unfold insF
    split
    · exact hc k a (by omega)
    · split
      · exact hxc
      · exact hc (k - 1) (by omega) (by omega)
  · rcases h8 k a b with e | ⟨j, c1, c2, c3⟩
    · exact Or.inl e
    · obtain ⟨i, d1, d2, d3⟩ := carry_ex hr0 hq j c1 c2
      exact Or.inr ⟨i, d1, d2, by rw [d3, c3]⟩
theorem INV_seat {n came x rp u : Int} {F G RF : Int → Int} (h : INV n came F G RF) (hr : 0 ≤ rp ∧ rp < n ∧ F rp = x) : INV n came F G (uI RF u x) := by
  obtain ⟨h1, h2, h3, h4, h5, h6, h7, h8⟩ := h
  refine ⟨h1, h2, h3, h4, h5, h6, h7, fun k a b => ?_⟩
  unfold uI
  split
  · exact Or.inr ⟨rp, hr.1, hr.2.1, hr.2.2⟩
  · exact h8 k a b
theorem INV_day {n came : Int} {F G RF : Int → Int} (h : INV n came F G RF) : INV n came F G (pdF F n RF) := by
  obtain ⟨h1, h2, h3, h4, h5, h6, h7, h8⟩ := h
  refine ⟨h1, h2, h3, h4, h5, h6, h7, fun k a b => ?_⟩
  unfold pdF
  split
  · exact h8 k a b
  · unfold fa
    split
    · rename_i z; exact Or.inr ⟨_, z.1, z.2, rfl⟩
    · exact Or.inl rfl
theorem INV_0 : INV 0 0 (fun _ => 0) (fun _ => 0) (fun _ => -1) := ⟨by omega, by omega, fun k a b => by omega, fun k a b => by omega, fun i j a b => by omega, fun k a b => by omega, fun i j a b c => by omega, fun k _ _ => Or.inl rfl⟩
end
section
/-! two archives whose folders are partners: the same order, the same ways of the readers -/
def REL (n : Int) (F F2 RF RF2 RC RC2 PN : Int → Int) : Prop := (∀ j : Int, 0 ≤ j → j < n → F2 j = PN (F j)) ∧ (∀ r : Int, 0 ≤ r → r < 4 → RF2 r = if RF r = -1 then -1 else PN (RF r)) ∧ (∀ r : Int, 0 ≤ r → r < 4 → RC2 r = RC r)
theorem PL_k {n came : Int} {F G RF : Int → Int} (h : INV n came F G RF) {k : Int} (hk : 0 ≤ k ∧ k < n) : PL F n (F k) k :=
  Or.inr ⟨hk.1, hk.2, rfl, fun j h0 h1 e => by have := h.2.2.2.2.1 j k h0 (by omega) hk.1 hk.2 e; omega⟩
theorem pl_k {n came : Int} {F G RF : Int → Int} (h : INV n came F G RF) {k : Int} (hk : 0 ≤ k ∧ k < n) : pl F n (F k) = k := PL_un (pl_PL h.1.1 _) (PL_k h hk)
theorem mb_k {n : Int} {G : Int → Int} (hn : 0 ≤ n) (hs : SD G n) {k : Int} (hk : 0 ≤ k ∧ k < n) : mb G n (G k) = k :=
  FI_un (mb_FI _ hn hs) ⟨⟨hk.1, by omega⟩, fun j h0 h1 => hs j k h0 h1 hk.2, fun _ => Int.le_refl _⟩
theorem RF_ne {n came : Int} {F G RF : Int → Int} (h : INV n came F G RF) {k g : Int} (hk : 0 ≤ k ∧ k < 4) (hg : came ≤ g) : RF k ≠ g := by
  have h2 := h.2.1
  rcases h.2.2.2.2.2.2.2 k hk.1 hk.2 with e | ⟨j, b1, b2, b3⟩
  · omega
  · have := h.2.2.2.1 j b1 b2; omega
theorem INV_ext {n came : Int} {F G RF RF' : Int → Int} (h : INV n came F G RF) (hR : ∀ k : Int, 0 ≤ k → k < 4 → RF k = RF' k) : INV n came F G RF' := by
  obtain ⟨h1, h2, h3, h4, h5, h6, h7, h8⟩ := h
  exact ⟨h1, h2, h3, h4, h5, h6, h7, fun k a b => by rw [← hR k a b]; exact h8 k a b⟩
theorem REL_at {n c1 c2 : Int} {F G RF F2 G2 RF2 RC RC2 PN : Int → Int} (hI : INV n c1 F G RF) (hJ : INV n c2 F2 G2 RF2) (h : REL n F F2 RF RF2 RC RC2 PN) {p r : Int} (hp : 0 ≤ p ∧ p < n) (hr : 0 ≤ r ∧ r < 4) : RF2 r = F2 p ↔ RF r = F p := by
  have h1 := h.2.1 r hr.1 hr.2
  have a1 := hI.2.2.1 p hp.1 hp.2
  have a2 := hJ.2.2.1 p hp.1 hp.2
  rcases hI.2.2.2.2.2.2.2 r hr.1 hr.2 with e | ⟨j, b1, b2, b3⟩
  · rw [if_pos e] at h1
    constructor <;> intro z <;> omega
  · have d1 := hI.2.2.1 j b1 b2
    rw [if_neg (by omega), ← b3, ← h.1 j b1 b2] at h1
    rw [h1, ← b3]
    constructor
    · intro z; rw [hJ.2.2.2.2.1 j p b1 b2 hp.1 hp.2 z]
    · intro z; rw [hI.2.2.2.2.1 j p b1 b2 hp.1 hp.2 z]
theorem REL_m1 {n c1 c2 : Int} {F G RF F2 G2 RF2 RC RC2 PN : Int → Int} (hI : INV n c1 F G RF) (hJ : INV n c2 F2 G2 RF2) (h : REL n F F2 RF RF2 RC RC2 PN) {r : Int} (hr : 0 ≤ r ∧ r < 4) : RF2 r = -1 ↔ RF r = -1 := by
  have h1 := h.2.1 r hr.1 hr.2
  rcases hI.2.2.2.2.2.2.2 r hr.1 hr.2 with e | ⟨j, b1, b2, b3⟩
  · rw [if_pos e] at h1
    constructor <;> intro z <;> omega
  · have d1 := hI.2.2.1 j b1 b2
    have d2 := hJ.2.2.1 j b1 b2
    rw [if_neg (by omega), ← b3, ← h.1 j b1 b2] at h1
    constructor <;> intro z <;> omega
theorem REL_pl {n c1 c2 : Int} {F G RF F2 G2 RF2 RC RC2 PN : Int → Int} (hI : INV n c1 F G RF) (hJ : INV n c2 F2 G2 RF2) (h : REL n F F2 RF RF2 RC RC2 PN) {r : Int} (hr : 0 ≤ r ∧ r < 4) : pl F2 n (RF2 r) = pl F n (RF r) := by
  have h1 := h.2.1 r hr.1 hr.2
  rcases hI.2.2.2.2.2.2.2 r hr.1 hr.2 with e | ⟨j, b1, b2, b3⟩
  · rw [if_pos e] at h1
    rw [pl_m1 hI.1.1 hI.2.2.1 e, pl_m1 hJ.1.1 hJ.2.2.1 h1]
  · have d1 := hI.2.2.1 j b1 b2
    rw [if_neg (by omega), ← b3, ← h.1 j b1 b2] at h1
    rw [h1, ← b3, pl_k hI ⟨b1, b2⟩, pl_k hJ ⟨b1, b2⟩]
theorem REL_fa {n c1 c2 : Int} {F G RF F2 G2 RF2 RC RC2 PN : Int → Int} (hI : INV n c1 F G RF) (hJ : INV n c2 F2 G2 RF2) (h : REL n F F2 RF RF2 RC RC2 PN) (v : Int) : fa F2 n v = if fa F n v = -1 then -1 else PN (fa F n v) := by
  unfold fa
  by_cases z : 0 ≤ v ∧ v < n
  · have d1 := hI.2.2.1 v z.1 z.2
    rw [if_pos z, if_pos z, if_neg (by omega)]
    exact h.1 v z.1 z.2
  · rw [if_neg z, if_neg z, if_pos rfl]
theorem REL_put {n c1 c2 : Int} {F G RF F2 G2 RF2 RC RC2 PN : Int → Int} (hI : INV n c1 F G RF) (hJ : INV n c2 F2 G2 RF2) (h : REL n F F2 RF RF2 RC RC2 PN) {q : Int} (hq : 0 ≤ q ∧ q ≤ n) : REL (n + 1) (insF F q c1) (insF F2 q c2) RF RF2 RC RC2 (uI PN c1 c2) := by
  refine ⟨fun j h0 h1 => ?_, fun r h0 h1 => ?_, h.2.2⟩
  · unfold insF uI
    rcases (show j < q ∨ j = q ∨ q < j by omega) with z | z | z
    · simp only [if_pos z]
      rw [if_neg (by have := hI.2.2.2.1 j h0 (by omega); omega)]
      exact h.1 j h0 (by omega)
    · simp only [if_neg (show ¬ j < q by omega), if_pos z, if_true]
    · simp only [if_neg (show ¬ j < q by omega), if_neg (show ¬ j = q by omega)]
      rw [if_neg (by have := hI.2.2.2.1 (j - 1) (by omega) (by omega); omega)]
      exact h.1 (j - 1) (by omega) (by omega)
  · rw [h.2.1 r h0 h1]
    by_cases e : RF r = -1
    · rw [if_pos e, if_pos e]
    · rw [if_neg e, if_neg e]
      unfold uI
      rw [if_neg (RF_ne hI ⟨h0, h1⟩ (Int.le_refl _))]
theorem REL_take {n c1 c2 : Int} {F G RF F2 G2 RF2 RC RC2 PN : Int → Int} (hI : INV n c1 F G RF) (hJ : INV n c2 F2 G2 RF2) (h : REL n F F2 RF RF2 RC RC2 PN) {p : Int} (hp : 0 ≤ p ∧ p < n) : REL (n - 1) (remF F p) (remF F2 p) (sendF RF (F p) (fa F n (p + 1))) (sendF RF2 (F2 p) (fa F2 n (p + 1))) RC RC2 PN := by
  refine ⟨fun j h0 h1 => ?_, fun r h0 h1 => ?_, h.2.2⟩
  · unfold remF
    by_cases z : j < p
    · rw [if_pos z, if_pos z]; exact h.1 j h0 (by omega)
    · rw [if_neg z, if_neg z]; exact h.1 (j + 1) (by omega) (by omega)
  · have e := REL_at hI hJ h hp ⟨h0, h1⟩
    unfold sendF
    by_cases z : RF r = F p
    · rw [if_pos z, if_pos (e.mpr z)]
      exact REL_fa hI hJ h (p + 1)
    · rw [if_neg z, if_neg (fun y => z (e.mp y))]
      exact h.2.1 r h0 h1
theorem REL_carry {n : Int} {F RF F2 RF2 RC RC2 PN : Int → Int} (h : REL n F F2 RF RF2 RC RC2 PN) {p q : Int} (hp : 0 ≤ p ∧ p < n) (hq : 0 ≤ q ∧ q ≤ n - 1) : REL n (insF (remF F p) q (F p)) (insF (remF F2 p) q (F2 p)) RF RF2 RC RC2 PN := by
  have hr : ∀ i : Int, 0 ≤ i → i < n - 1 → remF F2 p i = PN (remF F p i) := by
    intro i h0 h1
    unfold remF
    by_cases z : i < p
    · rw [if_pos z, if_pos z]; exact h.1 i h0 (by omega)
    · rw [if_neg z, if_neg z]; exact h.1 (i + 1) (by omega) (by omega)
  refine ⟨fun j h0 h1 => ?_, h.2⟩
  unfold insF
  rcases (show j < q ∨ j = q ∨ q < j by omega) with z | z | z
  · rw [if_pos z, if_pos z]; exact hr j h0 (by omega)
  · rw [if_neg (by omega), if_pos z, if_neg (by omega), if_pos z]; exact h.1 p hp.1 hp.2
  · rw [if_neg (by omega), if_neg (by omega), if_neg (by omega), if_neg (by omega)]; exact hr (j - 1) (by omega) (by omega)
theorem REL_seat {n c1 c2 : Int} {F G RF F2 G2 RF2 RC RC2 PN : Int → Int} (hI : INV n c1 F G RF) (hJ : INV n c2 F2 G2 RF2) (h : REL n F F2 RF RF2 RC RC2 PN) {p u : Int} (hp : 0 ≤ p ∧ p < n) : REL n F F2 (uI RF u (F p)) (uI RF2 u (F2 p)) RC RC2 PN := by
  refine ⟨h.1, fun r h0 h1 => ?_, h.2.2⟩
  unfold uI
  by_cases z : r = u
  · rw [if_pos z, if_pos z, if_neg (by have := hI.2.2.1 p hp.1 hp.2; omega)]
    exact h.1 p hp.1 hp.2
  · rw [if_neg z, if_neg z]
    exact h.2.1 r h0 h1
theorem REL_day {n c1 c2 : Int} {F G RF F2 G2 RF2 RC RC2 PN : Int → Int} (hI : INV n c1 F G RF) (hJ : INV n c2 F2 G2 RF2) (h : REL n F F2 RF RF2 RC RC2 PN) : REL n F F2 (pdF F n RF) (pdF F2 n RF2) (pdC F n RF RC) (pdC F2 n RF2 RC2) PN := by
  refine ⟨h.1, fun r h0 h1 => ?_, fun r h0 h1 => ?_⟩
  · have e := REL_pl hI hJ h ⟨h0, h1⟩
    unfold pdF
    rw [e]
    by_cases z : pl F n (RF r) = -1
    · rw [if_pos z, if_pos z]; exact h.2.1 r h0 h1
    · rw [if_neg z, if_neg z]; exact REL_fa hI hJ h _
  · have e := REL_pl hI hJ h ⟨h0, h1⟩
    unfold pdC
    rw [e, h.2.2 r h0 h1]
theorem seat_cn {n c1 c2 : Int} {F G RF F2 G2 RF2 RC RC2 PN : Int → Int} (hI : INV n c1 F G RF) (hJ : INV n c2 F2 G2 RF2) (h : REL n F F2 RF RF2 RC RC2 PN) {p u : Int} (hp : 0 ≤ p ∧ p < n) : cn (fun k => decide (uI RF2 u (F2 p) k = F2 p)) 4 = cn (fun k => decide (uI RF u (F p) k = F p)) 4 :=
  cn_ext (fun i h0 h1 => decide_eq_decide.mpr (REL_at (INV_seat hI ⟨hp.1, hp.2, rfl⟩) (INV_seat hJ ⟨hp.1, hp.2, rfl⟩) (REL_seat hI hJ h hp) hp ⟨h0, by omega⟩))
theorem day_cn {n c1 c2 : Int} {F G RF F2 G2 RF2 RC RC2 PN : Int → Int} (hI : INV n c1 F G RF) (hJ : INV n c2 F2 G2 RF2) (h : REL n F F2 RF RF2 RC RC2 PN) : cn (fun j => decide (pdF F2 n RF2 j ≠ -1)) 4 = cn (fun j => decide (pdF F n RF j ≠ -1)) 4 :=
  cn_ext (fun i h0 h1 => decide_eq_decide.mpr (not_congr (REL_m1 (INV_day hI) (INV_day hJ) (REL_day hI hJ h) ⟨h0, by omega⟩)))
theorem rem_ins (F : Int → Int) (q x : Int) : remF (insF F q x) q = F := by
  funext k
  unfold remF insF
  by_cases z : k < q
  · rw [if_pos z, if_pos z]
  · rw [if_neg z, if_neg (by omega), if_neg (by omega), show k + 1 - 1 = k by omega]
theorem rem_ins1 (F : Int → Int) (q a b : Int) : remF (insF (insF F q a) q b) (q + 1) = insF F q b := by
  funext k
  unfold remF insF
  rcases (show k < q ∨ k = q ∨ q < k by omega) with z | z | z
  · rw [if_pos (by omega), if_pos z, if_pos z, if_pos z]
  · rw [if_pos (by omega), if_neg (by omega), if_pos z, if_neg (by omega), if_pos z]
  · rw [if_neg (by omega), if_neg (by omega), if_neg (by omega), if_neg (by omega), if_neg (by omega), if_neg (by omega), if_neg (by omega), show k + 1 - 1 = k by omega]
theorem ins_at (F : Int → Int) (q x : Int) : insF F q x q = x := by
  unfold insF
  rw [if_neg (by omega), if_pos rfl]
theorem ins_at1 (F : Int → Int) (q a b : Int) : insF (insF F q a) q b (q + 1) = a := by
  unfold insF
  rw [if_neg (by omega), if_neg (by omega), if_neg (by omega), if_pos (by omega)]
theorem ins_bef (F : Int → Int) {q x k : Int} (h : k < q) : insF F q x k = F k := by
  unfold insF
  rw [if_pos h]
theorem send_id {RF : Int → Int} {g nx : Int} (h : ∀ k : Int, 0 ≤ k → k < 4 → RF k ≠ g) : ∀ k : Int, 0 ≤ k → k < 4 → sendF RF g nx k = RF k := fun k h0 h1 => by
  unfold sendF
  rw [if_neg (h k h0 h1)]
end
section
/-! the law's helpers: numbers, arrays by themselves, judgements -/
theorem CW_fr {D : va_G} {cI : ClassId} {base x0 x1 x2 x5 x6 x7 : Nat} {n came MV : Int} {F G SP RF RC : Int → Int} {H H1 : Heap} {A : Nat → Prop} (h : CW D cI base x0 x1 x2 x5 x6 x7 n came MV F G SP RF RC H) (hk : ∀ q : Nat, q < H.size → ¬ A q → H1[q]? = H[q]?) (hA : ∀ q, mC x0 x1 x2 x5 x6 x7 q → ¬ A q) : CW D cI base x0 x1 x2 x5 x6 x7 n came MV F G SP RF RC H1 := by
  obtain ⟨f, g, sp, rf, rc, a1, a2, a3, a4, a5, hP, hD⟩ := h
  exact ⟨f, g, sp, rf, rc, a1, a2, a3, a4, a5, hP.kept (fun k q hq => hk q.1 (hP k q hq).lt (hA q.1 ((CW_mD hD).2 k q hq))), hD⟩
theorem CW_b {D : va_G} {cI : ClassId} {base x0 x1 x2 x5 x6 x7 : Nat} {n came MV : Int} {F G SP RF RC : Int → Int} {H : Heap} (h : CW D cI base x0 x1 x2 x5 x6 x7 n came MV F G SP RF RC H) : ∀ q, mC x0 x1 x2 x5 x6 x7 q → base ≤ q := by
  obtain ⟨f, g, sp, rf, rc, -, -, -, -, -, hP, hD⟩ := h
  exact mC_b hD
def wr_M (l : Launch) (y : MethodName) (ws : List Cond) (rm : Room) (av : List Value) (P : State → Heap → Prop) (v : Int) (P2 : Heap → Prop) (A : Nat → Prop) (mc ms : Nat) : Prop := vx_Met l y ws rm (va_Pc av (fun U => P U U.heap)) (mu_Q (some (.int (iI v))) P2 A) (fun _ _ _ => False) mc ms A
theorem va_S_step {A : Nat → Prop} {H0 H H1 : Heap} (h : va_S A H0 H []) (h1 : va_S (fun q : Nat => H.size ≤ q) H H1 []) : va_S A H0 H1 [] :=
  ⟨Nat.le_trans h.1 h1.1, fun q a b => (h1.2.1 q (Nat.lt_of_lt_of_le a h.1) (Nat.not_le.mpr (Nat.lt_of_lt_of_le a h.1))).trans (h.2.1 q a b), fun _ h => by cases h⟩
theorem CW_mlt {D : va_G} {cI : ClassId} {base x0 x1 x2 x5 x6 x7 : Nat} {n came MV : Int} {F G SP RF RC : Int → Int} {H : Heap} (h : CW D cI base x0 x1 x2 x5 x6 x7 n came MV F G SP RF RC H) : ∀ q, mC x0 x1 x2 x5 x6 x7 q → q < H.size := by
  obtain ⟨f, g, sp, rf, rc, -, -, -, -, -, hP, -⟩ := h
  intro q hq
  rcases hq with rfl | rfl | rfl | rfl | rfl | rfl
  · exact (hP 0 _ rfl).lt
  · exact (hP 1 _ rfl).lt
  · exact (hP 2 _ rfl).lt
  · exact (hP 3 _ rfl).lt
  · exact (hP 4 _ rfl).lt
  · exact (hP 5 _ rfl).lt
theorem va_S_nil {A : Nat → Prop} {H0 H : Heap} {locs : List Loc} (h : va_S A H0 H locs) : va_S A H0 H [] := ⟨h.1, h.2.1, fun _ h => by cases h⟩
theorem va_S_wk {A B : Nat → Prop} {H0 H : Heap} {locs : List Loc} (h : va_S A H0 H locs) (hAB : ∀ q, A q → B q) : va_S B H0 H locs := ⟨h.1, fun q a b => h.2.1 q a (fun z => b (hAB q z)), fun l h9 => hAB _ (h.2.2 l h9)⟩
/-- an int array by itself -/
def GP (D : va_G) (cI : ClassId) (o N : Nat) (f : Nat → Int32) (H : Heap) : Prop := va_P D vwCl [(o, .inl (cI, N, .inl f))] H
theorem GP_fr {D : va_G} {cI : ClassId} {o N : Nat} {f : Nat → Int32} {H H1 : Heap} {A : Nat → Prop} (h : GP D cI o N f H) (hk : ∀ q : Nat, q < H.size → ¬ A q → H1[q]? = H[q]?) (hA : ¬ A o) : GP D cI o N f H1 := by
  refine va_P.kept h (fun k q hq => ?_)
  have h1 := (h k q hq).lt
  match k, hq with
  | 0, hq => cases hq; exact hk _ h1 hA
  | k + 1, hq => simp at hq
theorem GP_lt {D : va_G} {cI : ClassId} {o N : Nat} {f : Nat → Int32} {H : Heap} (h : GP D cI o N f H) : o < H.size := (h 0 _ rfl).lt
/-- the row of partners: place by place of the other one's folders -/
def OP (D : va_G) (cI : ClassId) (pp : Nat) (PN : Int → Int) (H : Heap) : Prop := ∃ f : Nat → Int32, AR f 64 PN ∧ GP D cI pp 64 f H
theorem OP_fr {D : va_G} {cI : ClassId} {pp : Nat} {PN : Int → Int} {H H1 : Heap} {A : Nat → Prop} (h : OP D cI pp PN H) (hk : ∀ q : Nat, q < H.size → ¬ A q → H1[q]? = H[q]?) (hA : ¬ A pp) : OP D cI pp PN H1 := by
  obtain ⟨f, h1, h2⟩ := h
  exact ⟨f, h1, GP_fr h2 hk hA⟩
theorem OP_lt {D : va_G} {cI : ClassId} {pp : Nat} {PN : Int → Int} {H : Heap} (h : OP D cI pp PN H) : pp < H.size := by
  obtain ⟨f, h1, h2⟩ := h
  exact GP_lt h2
theorem CW_RF {D : va_G} {cI : ClassId} {base x0 x1 x2 x5 x6 x7 : Nat} {n came MV : Int} {F G SP RF RF' RC : Int → Int} {H : Heap} (h : CW D cI base x0 x1 x2 x5 x6 x7 n came MV F G SP RF RC H) (hR : ∀ k : Int, 0 ≤ k → k < 4 → RF k = RF' k) : CW D cI base x0 x1 x2 x5 x6 x7 n came MV F G SP RF' RC H := by
  obtain ⟨f, g, sp, rf, rc, a1, a2, a3, a4, a5, hP, hD⟩ := h
  exact ⟨f, g, sp, rf, rc, a1, a2, a3, AR_to a4 (Int.le_refl _) hR, a5, hP, hD⟩
theorem iI_rem {a b : Int} (ha : 0 ≤ a ∧ a ≤ 2147483647) (hb : 0 < b ∧ b ≤ 2147483647) : iI a - iI a / iI b * iI b = iI (a % b) := by
  rw [iI_div ha hb, iI_mul, iI_sub, Int.emod_def, Int.mul_comm]
theorem iI_and (x : Int32) : ∃ v : Int, (0 ≤ v ∧ v ≤ 2147483647) ∧ x &&& 2147483647 = iI v := by
  have h1 : (x &&& 2147483647).toBitVec.toNat ≤ 2147483647 := by
    rw [Int32.toBitVec_and, BitVec.toNat_and]
    exact Nat.and_le_right
  refine ⟨((x &&& 2147483647).toBitVec.toNat : Int), by omega, ?_⟩
  rw [iI_nI]
  exact Int32.toBitVec_inj.mp (by show _ = BitVec.ofNat 32 _; simp)
def ar_M (l : Launch) (y : MethodName) (ws : List Cond) (rm : Room) (av : List Value) (P : State → Heap → Prop) (v : Int) : Prop := vx_Met l y ws rm (va_Pc av (fun U => P U U.heap)) (pu_Q v) (fun _ _ _ => False) 0 0 (fun _ => False)
def nw_M (l : Launch) (y : MethodName) (ws : List Cond) (rm : Room) (av : List Value) (P : State → Heap → Prop) (ov : Option Value) (P2 : Heap → Prop) (A : Nat → Prop) (mc ms : Nat) : Prop := Met l y ws rm (va_Pc av (fun U => P U U.heap)) (mu_Q ov P2 A) mc ms A
section WR1
variable {p : Program} {l : Launch} {e : Env} {R : Room} {s : State} {m : MethodId} {args : Array Value} {below : List Frame} {meth : Method} {c : Code} {H : Heap} {locs : List Loc} {cells slots : Nat} {Q : State → Prop}
variable {y : MethodName} {bytes cc : ByteArray} {maxL nL n index : Nat} {ret : Option FieldType} {ws ws' : List Cond} {rm : Room} {P : State → Heap → Prop} {Ts : List Cond} {own : String} {As rest st0 : List Value} {pc : Nat} {ls : Array Slot} {hh : List (Nat × Nat × Nat × Nat)}
theorem wr_call {v : Int} {P2 : Heap → Prop} {A A0 : Nat → Prop} {H0 : Heap} {mc ms : Nat} (hm : mvb P) (S : CallFix p m c cc nL s args Ts own) (hM : wr_M l y ws rm As P v P2 A mc ms) (cw : vx_CSW R s args own index y bytes maxL ret hh ws rm mc ms n) (hP : P s H)
    (hst : st0 = As.reverse ++ rest) (hn : As.length = n) (hsz : ls.size = nL) (hW : (rest.map fun v => v.category).sum ≤ 8) (d : decode cc pc = .ok (.invokestatic index, 3)) (hf : cells + mc ≤ R.cells ∧ slots + ms ≤ R.slots)
    (hS : va_S A0 H0 H locs) (hA : ∀ q, A q → A0 q)
    (kk : ∀ (H1 : Heap) (locs1 : List Loc), P2 H1 → H.size ≤ H1.size → (∀ q : Nat, q < H.size → ¬ A q → H1[q]? = H[q]?) → va_S A0 H0 H1 locs1 → W p l e R s m args below meth c H1 locs1 (cells + mc) (slots + ms) Q (F0 m (pc + 3) ls (.int (iI v) :: rest))) : W p l e R s m args below meth c H locs cells slots Q (F0 m pc ls st0) := by
  intro T hT X
  rcases (vx_runSX S hM cw ⟨blind_of hm _, fun U hU hw => ⟨rfl, by show P U U.heap; rw [hU]; exact hm s U H hw hP⟩⟩ (g := F0 m pc ls st0) rfl hn hsz hst (lv_room hW) d hf) T hT X with ⟨v9, st₀, t, T', L, h0, X', hL, e1, e2, ⟨hv, hp2, hz, hk⟩, st⟩ | ⟨q, st₀, t, T', L, E2, ce, h0, X', hL, e1, e2, hF, hce, hcv, hcl, st⟩
  · cases hv
    rw [h0] at hz hk
    obtain ⟨t2, a1, b1⟩ := kk T'.heap (locs ++ L) (by rw [e1]; exact hp2) (by rw [e1]; exact hz) (by rw [e1]; exact hk)
      ⟨Nat.le_trans hS.1 (by rw [e1]; exact hz), fun q h1 h2 => by rw [e1, hk q (Nat.lt_of_lt_of_le h1 hS.1) (fun z => h2 (hA q z))]; exact hS.2.1 q h1 h2, fun q hq => by
        rcases List.mem_append.mp hq with h | h
        · exact hS.2.2 q h
        · exact hA _ (hL q h)⟩ T' rfl X'
    exact ⟨t2, st t2 a1, b1⟩
  · exact hF.elim
theorem wr_of {v : Int} {P2 : Heap → Prop} {A : Nat → Prop} {mc ms : Nat} {av : List Value} (hy : plainName y.cls = true) (hw : ws = Cond.codeWith y cc maxL ret hh :: ws') (ho : y.cls = own) (hlen : (lg_sl av).length ≤ maxL)
    (body : ∀ (p : Program) (e : Env) (s : State) (m : MethodId) (below : List Frame) (meth : Method) (c : Code) (ls : Array Slot), bd_At p s m av.toArray meth c cc maxL ret ws own → c.exceptionTable.toList = tableOf hh → P s s.heap → lv_has ls maxL (lv_args 0 av) → va_S A s.heap s.heap [] →
      W p l e rm s m av.toArray below meth c s.heap [] 0 0 (vx_MQ below (mu_Q (some (.int (iI v))) P2 A) (fun _ _ _ => False) av.toArray s mc ms A) (F0 m 0 ls [])) : wr_M l y ws rm av P v P2 A mc ms := by
  refine vx_ofWH (cc := cc) (maxL := maxL) (ret := ret) (hh := hh) hy hw ?_
  intro p e s m args below meth c s₁ B hml hv
  obtain ⟨rfl, hP⟩ := hv
  have hown : s.vm.findClass y.cls = some m.cls := findClass_of_methodNamed B.named
  rw [ho] at hown
  rw [lg_entry_eq]
  have hts := atoms_spec (ws := ws) B.pre
  exact body p e s m below meth c _ ⟨B.exec, B.bytes, hml, B.returns, hts, hown, B.notSynchronized⟩ (vx_table (x := y) B (hts _ (by rw [hw]; exact List.mem_cons_self))) hP (lv_entry av hlen) va_S.rf
theorem wr_iret {v v9 : Int} {P2 : Heap → Prop} {A : Nat → Prop} (hx : p.tables.exec = Jvm.exec) (hb : c.code = cc) (hr : meth.sig.returnType = some .int) (hlocks : meth.locks = false) (hS : va_S A s.heap H locs) (d : decode cc pc = .ok (.ireturn, 1)) (h : v9 = v) (h2 : P2 H) : W p l e R s m args below meth c H locs cells slots (vx_MQ below (mu_Q (some (.int (iI v))) P2 A) (fun _ _ _ => False) args s cells slots A) (F0 m pc ls [.int (iI v9)]) := by
  subst h
  exact vx_ret (W.iret hx hb hr (fun t ht _ => ⟨rfl, by rw [ht]; exact h2, hS.F ht⟩) hS.2.2 d hlocks)
theorem ar_call {v : Int} (hm : mvb P) (S : CallFix p m c cc nL s args Ts own) (hM : ar_M l y ws rm As P v) (cw : vx_CSW R s args own index y bytes maxL ret hh ws rm 0 0 n) (hP : P s H)
    (hst : st0 = As.reverse ++ rest) (hn : As.length = n) (hsz : ls.size = nL) (hW : (rest.map fun v => v.category).sum ≤ 8) (d : decode cc pc = .ok (.invokestatic index, 3)) (hf : cells + 0 ≤ R.cells ∧ slots + 0 ≤ R.slots)
    (kk : W p l e R s m args below meth c H locs cells slots Q (F0 m (pc + 3) ls (.int (iI v) :: rest))) : W p l e R s m args below meth c H locs cells slots Q (F0 m pc ls st0) := by
  intro T hT X
  rcases (vx_runSX S hM cw ⟨blind_of hm _, fun U hU hw => ⟨rfl, by show P U U.heap; rw [hU]; exact hm s U H hw hP⟩⟩ (g := F0 m pc ls st0) rfl hn hsz hst (lv_room hW) d hf) T hT X with ⟨v9, st₀, t, T', L, h0, X', hL, e1, e2, ⟨hv, hh2⟩, st⟩ | ⟨q, st₀, t, T', L, E2, ce, h0, X', hL, e1, e2, hF, hce, hcv, hcl, st⟩
  · cases hv
    have hL0 : L = [] := List.eq_nil_iff_forall_not_mem.mpr (fun q hq => hL q hq)
    subst hL0
    rw [List.append_nil] at X'
    obtain ⟨t2, a1, b1⟩ := kk T' (by rw [e1, hh2, h0]) X'
    exact ⟨t2, st t2 a1, b1⟩
  · exact hF.elim
theorem ar_of {v : Int} {av : List Value} (hy : plainName y.cls = true) (hw : ws = Cond.codeWith y cc maxL ret hh :: ws') (ho : y.cls = own) (hlen : (lg_sl av).length ≤ maxL)
    (body : ∀ (p : Program) (e : Env) (s : State) (m : MethodId) (below : List Frame) (meth : Method) (c : Code) (ls : Array Slot), bd_At p s m av.toArray meth c cc maxL ret ws own → P s s.heap → lv_has ls maxL (lv_args 0 av) →
      W p l e rm s m av.toArray below meth c s.heap [] 0 0 (vx_MQ below (pu_Q v) (fun _ _ _ => False) av.toArray s 0 0 (fun _ => False)) (F0 m 0 ls [])) : ar_M l y ws rm av P v := by
  refine vx_ofWH (cc := cc) (maxL := maxL) (ret := ret) (hh := hh) hy hw ?_
  intro p e s m args below meth c s₁ B hml hv
  obtain ⟨rfl, hP⟩ := hv
  have hown : s.vm.findClass y.cls = some m.cls := findClass_of_methodNamed B.named
  rw [ho] at hown
  rw [lg_entry_eq]
  exact body p e s m below meth c _ ⟨B.exec, B.bytes, hml, B.returns, atoms_spec (ws := ws) B.pre, hown, B.notSynchronized⟩ hP (lv_entry av hlen)
theorem ar_iret {v v9 : Int} (hx : p.tables.exec = Jvm.exec) (hb : c.code = cc) (hr : meth.sig.returnType = some .int) (hlocks : meth.locks = false) (d : decode cc pc = .ok (.ireturn, 1)) (h : v9 = v) : W p l e R s m args below meth c s.heap [] 0 0 (vx_MQ below (pu_Q v) (fun _ _ _ => False) args s 0 0 (fun _ => False)) (F0 m pc ls [.int (iI v9)]) := by
  subst h
  exact vx_ret (W.iret hx hb hr (fun t ht _ => ⟨rfl, ht⟩) (fun _ h => by cases h) d hlocks)
theorem nw_callS {ov : Option Value} {P2 : Heap → Prop} {A A0 : Nat → Prop} {H0 : Heap} {mc ms : Nat} (hm : mvb P) (S : CallFix p m c cc nL s args Ts own) (hM : nw_M l y ws rm As P ov P2 A mc ms) (cw : CallB R s args own index y bytes maxL ret ws rm mc ms n ∧ (Cond.static y).before args s = true) (hP : P s H)
    (hst : st0 = As.reverse ++ rest) (hn : As.length = n) (hsz : ls.size = nL) (hW : (rest.map fun v => v.category).sum ≤ 8) (d : decode cc pc = .ok (.invokestatic index, 3)) (hf : cells + mc ≤ R.cells ∧ slots + ms ≤ R.slots)
    (hS : va_S A0 H0 H locs) (hA : ∀ q, A q → A0 q)
    (kk : ∀ (H1 : Heap) (locs1 : List Loc), P2 H1 → H.size ≤ H1.size → (∀ q : Nat, q < H.size → ¬ A q → H1[q]? = H[q]?) → va_S A0 H0 H1 locs1 → W p l e R s m args below meth c H1 locs1 (cells + mc) (slots + ms) Q (F0 m (pc + 3) ls (ov.toList ++ rest))) : W p l e R s m args below meth c H locs cells slots Q (F0 m pc ls st0) := by
  intro T hT X
  obtain ⟨v9, st₀, t, T', L, h0, X', hL, e1, e2, ⟨hv, hp2, hz, hk⟩, st⟩ := (va_runS S hM cw ⟨blind_of hm _, fun U hU hw => ⟨rfl, by show P U U.heap; rw [hU]; exact hm s U H hw hP⟩⟩ (g := F0 m pc ls st0) rfl hn hsz hst (lv_room hW) d hf) T hT X
  cases hv
  rw [h0] at hz hk
  obtain ⟨t2, a1, b1⟩ := kk T'.heap (locs ++ L) (by rw [e1]; exact hp2) (by rw [e1]; exact hz) (by rw [e1]; exact hk)
    ⟨Nat.le_trans hS.1 (by rw [e1]; exact hz), fun q h1 h2 => by rw [e1, hk q (Nat.lt_of_lt_of_le h1 hS.1) (fun z => h2 (hA q z))]; exact hS.2.1 q h1 h2, fun q hq => by
      rcases List.mem_append.mp hq with h | h
      · exact hS.2.2 q h
      · exact hA _ (hL q h)⟩ T' rfl X'
  exact ⟨t2, st t2 a1, b1⟩
theorem nw_of {ov : Option Value} {P2 : Heap → Prop} {A : Nat → Prop} {mc ms : Nat} {av : List Value} (hy : plainName y.cls = true) (hw : ws = Cond.code y cc maxL ret :: ws') (ho : y.cls = own) (hlen : (lg_sl av).length ≤ maxL)
    (body : ∀ (p : Program) (e : Env) (s : State) (m : MethodId) (below : List Frame) (meth : Method) (c : Code) (ls : Array Slot), bd_At p s m av.toArray meth c cc maxL ret ws own → P s s.heap → lv_has ls maxL (lv_args 0 av) → va_S A s.heap s.heap [] →
      W p l e rm s m av.toArray below meth c s.heap [] 0 0 (MQ below (mu_Q ov P2 A) av.toArray s mc ms A) (F0 m 0 ls [])) : nw_M l y ws rm av P ov P2 A mc ms := by
  refine Met.ofW (cc := cc) (maxL := maxL) (ret := ret) hy hw ?_
  intro p e s m args below meth c s₁ B hml hv
  obtain ⟨rfl, hP⟩ := hv
  have hown : s.vm.findClass y.cls = some m.cls := findClass_of_methodNamed B.named
  rw [ho] at hown
  rw [lg_entry_eq]
  exact body p e s m below meth c _ ⟨B.exec, B.bytes, hml, B.returns, atoms_spec (ws := ws) B.pre, hown, B.notSynchronized⟩ hP (lv_entry av hlen) va_S.rf
theorem nw_zret {v v9 : Int} {P2 : Heap → Prop} {A : Nat → Prop} (hx : p.tables.exec = Jvm.exec) (hb : c.code = cc) (hr : meth.sig.returnType = some .boolean) (hlocks : meth.locks = false) (hS : va_S A s.heap H locs) (d : decode cc pc = .ok (.ireturn, 1)) (h : v9 = v) (hz9 : v = 0 ∨ v = 1) (h2 : P2 H) : W p l e R s m args below meth c H locs cells slots (MQ below (mu_Q (some (.int (iI v))) P2 A) args s cells slots A) (F0 m pc ls [.int (iI v9)]) := by
  subst h
  exact W.zret (ty := .boolean) hx hb hr (by rcases hz9 with rfl | rfl <;> decide +kernel) (fun t ht _ => ⟨rfl, by rw [ht]; exact h2, hS.F ht⟩) hS.2.2 d hlocks
theorem pv_irem (hx : p.tables.exec = Jvm.exec) (hb : c.code = cc) {a b : Int} (d : decode cc pc = .ok (.irem, 1)) (ha : 0 ≤ a ∧ a ≤ 2147483647) (hb9 : 0 < b ∧ b ≤ 2147483647) (k : W p l e R s m args below meth c H locs cells slots Q (F0 m (pc + 1) ls (.int (iI (a % b)) :: rest))) : W p l e R s m args below meth c H locs cells slots Q (F0 m pc ls (.int (iI b) :: .int (iI a) :: rest)) := by
  refine lv_irem hx hb d (fun h => ?_) ?_
  · have := (iI_eq (a := b) (b := 0) (by omega) (by omega)).mp (h.trans iI_0.symm)
    omega
  · rw [iI_rem ha hb9]
    exact k
theorem pv_nesame (hx : p.tables.exec = Jvm.exec) (hb : c.code = cc) {x y : Int} {off : Int} {tgt : Nat} (d : decode cc pc = .ok (.if_icmp .ne off, 3)) (ht : (pc : Int) + off = (tgt : Int)) (e9 : x = y) (kf : W p l e R s m args below meth c H locs cells slots Q (F0 m (pc + 3) ls rest)) : W p l e R s m args below meth c H locs cells slots Q (F0 m pc ls (.int (iI y) :: .int (iI x) :: rest)) := by
  subst e9
  exact lv_icmp_ne hx hb d ht (fun h => absurd rfl h) (fun _ => kf)
theorem pv_ast1 {D : va_G} {cI : ClassId} {o N : Nat} {f : Nat → Int32} {A : Nat → Prop} {H0 : Heap} (hx : p.tables.exec = Jvm.exec) (hb : c.code = cc) (hK : va_K D vwCl [(cI, .int)] s) (hO : GP D cI o N f H) (hS : va_S A H0 H locs) (hAo : A o) {i v : Int} (hi : 0 ≤ i ∧ i < N) (hn : N ≤ 2147483647) (d : decode cc pc = .ok (.iastore, 1))
    (kk : ∀ (H1 : Heap) (locs1 : List Loc), GP D cI o N (upd f i.toNat (iI v)) H1 → H1.size = H.size → (∀ q : Nat, q < H.size → ¬ q = o → H1[q]? = H[q]?) → va_S A H0 H1 locs1 → W p l e R s m args below meth c H1 locs1 cells slots Q (F0 m (pc + 1) ls rest)) : W p l e R s m args below meth c H locs cells slots Q (F0 m pc ls (.int (iI v) :: .int (iI i) :: .ref o :: rest)) := by
  have hin : vp_in (iI i) N := iI_in hi hn
  have hP : va_P D vwCl [(o, .inl (cI, N, .inl f))] H := hO
  refine W.iast hx hb (hP 0 _ rfl) ((hK.2 0 _ rfl).1 N (fun j => .int (f j))) (fun q => by cases q) (by show ¬ (iI i < 0 ∨ (arrV _ _ _).slots.size ≤ _); rw [arrV_size]; exact hin) rfl rfl d fun H1 e z oq => ?_
  have e0 : (iI i).toNatClampNeg = i.toNat := iI_N ⟨hi.1, by omega⟩
  refine kk H1 _ (fun k q hq => ?_) z (fun q _ h => oq q h) (hS.put z oq hAo)
  match k, hq with
  | k + 1, hq => simp at hq
  | 0, hq =>
    cases hq
    show H1[o]? = some (vp_cell _ _)
    rw [e, e0]
    rw [vp_cell_i, vp_cell_i, arrV_store]
    congr 2
    funext q
    by_cases hq : q = i.toNat
    · subst hq
      simp [updV, upd]
    · simp [updV, upd, hq]
theorem pv_ald1 {D : va_G} {cI : ClassId} {o N : Nat} {f : Nat → Int32} (hx : p.tables.exec = Jvm.exec) (hb : c.code = cc) (hK : va_K D vwCl [(cI, .int)] s) (hO : GP D cI o N f H) {i v : Int} (hi : 0 ≤ i ∧ i < N) (hn : N ≤ 2147483647) (hv : f i.toNat = iI v) (d : decode cc pc = .ok (.iaload, 1))
    (kk : W p l e R s m args below meth c H locs cells slots Q (F0 m (pc + 1) ls (.int (iI v) :: rest))) : W p l e R s m args below meth c H locs cells slots Q (F0 m pc ls (.int (iI i) :: .ref o :: rest)) :=
  pv_iald hx hb hK (show va_P D vwCl [(o, .inl (cI, N, .inl f))] H from hO) 0 0 rfl rfl hi hn hv d kk
end WR1
end
section
/-- what the helper wants where the class throws IllegalArgumentException -/
def DP (D : va_G) (cI : ClassId) (base st : Nat) (Z : Nat → Nat) (x0 x1 x2 x5 x6 x7 : Nat) (n came MV : Int) (F G SP RF RC : Int → Int) : State → Heap → Prop := fun U H => CP D cI base st Z x0 x1 x2 x5 x6 x7 n came MV F G SP RF RC U H ∧ va_Nc "java/lang/IllegalArgumentException" "java/lang/IllegalStateException" U ∧ va_Nc "java/lang/IllegalArgumentException" "java/lang/IndexOutOfBoundsException" U
theorem DP_mv {D : va_G} {cI : ClassId} {base st : Nat} {Z : Nat → Nat} {x0 x1 x2 x5 x6 x7 : Nat} {n came MV : Int} {F G SP RF RC : Int → Int} : mvb (DP D cI base st Z x0 x1 x2 x5 x6 x7 n came MV F G SP RF RC) := fun _ _ _ hW h => ⟨CP_mv _ _ _ hW h.1, va_Nc.moved hW.alike h.2.1, va_Nc.moved hW.alike h.2.2⟩
set_option maxHeartbeats 4000000 in
set_option maxRecDepth 100000 in
theorem q_next (l : Launch) (D : va_G) (cI : ClassId) (base st : Nat) (Z : Nat → Nat) (x0 x1 x2 x5 x6 x7 : Nat) {n came MV : Int} {F G SP RF RC : Int → Int} (hn : 0 ≤ n ∧ n ≤ 60) (hF : ∀ k : Int, 0 ≤ k → k < n → 0 ≤ F k ∧ F k < 200) (x : Int) (hxr : (-2147483648 ≤ x ∧ x ≤ 2147483647)) (rp : Int) (hrp : PL F n x rp) (h0 : 0 ≤ rp) (r : Int) (hr9 : r = fa F n (rp + 1))  : ar_M l yL_asked wsL_asked ({ frames := 3, cells := 0, slots := 0, locals := 65 } : Room) [.ref x0, .int (iI (0)), .int (iI (x))] (CP D cI base st Z x0 x1 x2 x5 x6 x7 n came MV F G SP RF RC) (r) := by
  refine ar_of (cc := cL_asked) (maxL := 4) (ret := (some .int)) (own := RL) (hh := [(0, 56, 57, 31)]) (by decide) rfl rfl (Nat.le_of_ble_eq_true rfl) ?_
  intro p e s m below meth c ls B hCP hl
  obtain ⟨hx, hb, hml, hr, hts, hown, hlocks⟩ := B
  have hl : lv_has ls 4 [(0, .ref x0), (1, .int (iI (0))), (2, .int (iI (x)))] := hl
  refine lv_iload_n hx hb dL_asked_0 rfl (lv_at hl 1 rfl) ?_
  refine pv_if_ne (tgt := 12) hx hb dL_asked_1 (by decide) (by omega) (fun c9 => False.elim (by omega)) (fun _ => ?_)
  refine lv_aload_n hx hb dL_asked_4 rfl (lv_at hl 0 rfl) ?_
  refine lv_iload_n hx hb dL_asked_5 rfl (lv_at hl 2 rfl) ?_
  refine pu_callV (v := r) (As := [.int (iI (x))]) (rest := []) CP_mv ⟨hx, hb, hml, hown, hts⟩ (c_next l D cI base st Z x0 x1 x2 x5 x6 x7 hn hF x hxr rp hrp h0 r hr9) (cwV 1 hts gL_asked_X0_next rfl rfl rfl (by decide +kernel) ⟨(Nat.le_of_ble_eq_true rfl), (Nat.le_of_ble_eq_true rfl)⟩) hCP (CP_rc hCP) rfl rfl hl.1 (Nat.le_of_ble_eq_true rfl) dL_asked_6 ⟨Nat.zero_le _, Nat.zero_le _⟩ ?_
  refine lv_goto (tgt := 56) hx hb dL_asked_9 (by decide) ?_
  exact ar_iret hx hb hr hlocks dL_asked_56 rfl
set_option maxHeartbeats 4000000 in
set_option maxRecDepth 100000 in
theorem q_mark (l : Launch) (D : va_G) (cI : ClassId) (base st : Nat) (Z : Nat → Nat) (x0 x1 x2 x5 x6 x7 : Nat) {n came MV : Int} {F G SP RF RC : Int → Int} (hn : 0 ≤ n ∧ n ≤ 60) (hF : ∀ k : Int, 0 ≤ k → k < n → 0 ≤ F k ∧ F k < 200) (x : Int) (hxr : (-2147483648 ≤ x ∧ x ≤ 2147483647)) (rp : Int) (hrp : PL F n x rp) (h0 : 0 ≤ rp)  : ar_M l yL_asked wsL_asked ({ frames := 3, cells := 0, slots := 0, locals := 65 } : Room) [.ref x0, .int (iI (1)), .int (iI (x))] (CP D cI base st Z x0 x1 x2 x5 x6 x7 n came MV F G SP RF RC) (G rp) := by
  refine ar_of (cc := cL_asked) (maxL := 4) (ret := (some .int)) (own := RL) (hh := [(0, 56, 57, 31)]) (by decide) rfl rfl (Nat.le_of_ble_eq_true rfl) ?_
  intro p e s m below meth c ls B hCP hl
  obtain ⟨hx, hb, hml, hr, hts, hown, hlocks⟩ := B
  have hl : lv_has ls 4 [(0, .ref x0), (1, .int (iI (1))), (2, .int (iI (x)))] := hl
  refine lv_iload_n hx hb dL_asked_0 rfl (lv_at hl 1 rfl) ?_
  refine pv_if_ne (tgt := 12) hx hb dL_asked_1 (by decide) (by omega) (fun _ => ?_) (fun c9 => False.elim (by omega))
  refine lv_iload_n hx hb dL_asked_12 rfl (lv_at hl 1 rfl) ?_
  refine pv_iconst hx hb dL_asked_13 ?_
  refine pv_icmp_ne (tgt := 25) hx hb dL_asked_14 (by decide) (by omega) (fun c9 => False.elim (by omega)) (fun _ => ?_)
  refine lv_aload_n hx hb dL_asked_17 rfl (lv_at hl 0 rfl) ?_
  refine lv_iload_n hx hb dL_asked_18 rfl (lv_at hl 2 rfl) ?_
  refine pu_callV (v := G rp) (As := [.int (iI (x))]) (rest := []) CP_mv ⟨hx, hb, hml, hown, hts⟩ (c_mark l D cI base st Z x0 x1 x2 x5 x6 x7 hn hF x hxr rp hrp h0) (cwV 1 hts gL_asked_X0_mark rfl rfl rfl (by decide +kernel) ⟨(Nat.le_of_ble_eq_true rfl), (Nat.le_of_ble_eq_true rfl)⟩) hCP (CP_rc hCP) rfl rfl hl.1 (Nat.le_of_ble_eq_true rfl) dL_asked_19 ⟨Nat.zero_le _, Nat.zero_le _⟩ ?_
  refine lv_goto (tgt := 56) hx hb dL_asked_22 (by decide) ?_
  exact ar_iret hx hb hr hlocks dL_asked_56 rfl
set_option maxHeartbeats 4000000 in
set_option maxRecDepth 100000 in
theorem q_ahead (l : Launch) (D : va_G) (cI : ClassId) (base st : Nat) (Z : Nat → Nat) (x0 x1 x2 x5 x6 x7 : Nat) {n came MV : Int} {F G SP RF RC : Int → Int} (hn : 0 ≤ n ∧ n ≤ 60) (hF : ∀ k : Int, 0 ≤ k → k < n → 0 ≤ F k ∧ F k < 200) (x : Int) (hxr : (-2147483648 ≤ x ∧ x ≤ 2147483647)) (rp : Int) (hrp : PL F n x rp) (h0 : 0 ≤ rp) (hG : ∀ k : Int, 0 ≤ k → k < n → 0 ≤ G k ∧ G k ≤ 255) (hs : SD G n)  : ar_M l yL_asked wsL_asked ({ frames := 3, cells := 0, slots := 0, locals := 65 } : Room) [.ref x0, .int (iI (2)), .int (iI (x))] (CP D cI base st Z x0 x1 x2 x5 x6 x7 n came MV F G SP RF RC) (mb G n (G rp)) := by
  refine ar_of (cc := cL_asked) (maxL := 4) (ret := (some .int)) (own := RL) (hh := [(0, 56, 57, 31)]) (by decide) rfl rfl (Nat.le_of_ble_eq_true rfl) ?_
  intro p e s m below meth c ls B hCP hl
  obtain ⟨hx, hb, hml, hr, hts, hown, hlocks⟩ := B
  have hl : lv_has ls 4 [(0, .ref x0), (1, .int (iI (2))), (2, .int (iI (x)))] := hl
  refine lv_iload_n hx hb dL_asked_0 rfl (lv_at hl 1 rfl) ?_
  refine pv_if_ne (tgt := 12) hx hb dL_asked_1 (by decide) (by omega) (fun _ => ?_) (fun c9 => False.elim (by omega))
  refine lv_iload_n hx hb dL_asked_12 rfl (lv_at hl 1 rfl) ?_
  refine pv_iconst hx hb dL_asked_13 ?_
  refine pv_icmp_ne (tgt := 25) hx hb dL_asked_14 (by decide) (by omega) (fun _ => ?_) (fun c9 => False.elim (by omega))
  refine lv_iload_n hx hb dL_asked_25 rfl (lv_at hl 1 rfl) ?_
  refine pv_iconst hx hb dL_asked_26 ?_
  refine pv_icmp_ne (tgt := 38) hx hb dL_asked_27 (by decide) (by omega) (fun c9 => False.elim (by omega)) (fun _ => ?_)
  refine lv_aload_n hx hb dL_asked_30 rfl (lv_at hl 0 rfl) ?_
  refine lv_iload_n hx hb dL_asked_31 rfl (lv_at hl 2 rfl) ?_
  refine pu_callV (v := mb G n (G rp)) (As := [.int (iI (x))]) (rest := []) CP_mv ⟨hx, hb, hml, hown, hts⟩ (c_ahead l D cI base st Z x0 x1 x2 x5 x6 x7 hn hF x hxr rp hrp h0 hG hs) (cwV 1 hts gL_asked_X0_ahead rfl rfl rfl (by decide +kernel) ⟨(Nat.le_of_ble_eq_true rfl), (Nat.le_of_ble_eq_true rfl)⟩) hCP (CP_rc hCP) rfl rfl hl.1 (Nat.le_of_ble_eq_true rfl) dL_asked_32 ⟨Nat.zero_le _, Nat.zero_le _⟩ ?_
  refine lv_goto (tgt := 56) hx hb dL_asked_35 (by decide) ?_
  exact ar_iret hx hb hr hlocks dL_asked_56 rfl
set_option maxHeartbeats 4000000 in
set_option maxRecDepth 100000 in
theorem q_at (l : Launch) (D : va_G) (cI : ClassId) (base st : Nat) (Z : Nat → Nat) (x0 x1 x2 x5 x6 x7 : Nat) {n came MV : Int} {F G SP RF RC : Int → Int} (lv : Int) (hlv : 0 ≤ lv ∧ lv < 4)  : ar_M l yL_asked wsL_asked ({ frames := 2, cells := 0, slots := 0, locals := 41 } : Room) [.ref x0, .int (iI (3)), .int (iI (lv))] (CP D cI base st Z x0 x1 x2 x5 x6 x7 n came MV F G SP RF RC) (RF lv) := by
  refine ar_of (cc := cL_asked) (maxL := 4) (ret := (some .int)) (own := RL) (hh := [(0, 56, 57, 31)]) (by decide) rfl rfl (Nat.le_of_ble_eq_true rfl) ?_
  intro p e s m below meth c ls B hCP hl
  obtain ⟨hx, hb, hml, hr, hts, hown, hlocks⟩ := B
  have hl : lv_has ls 4 [(0, .ref x0), (1, .int (iI (3))), (2, .int (iI (lv)))] := hl
  refine lv_iload_n hx hb dL_asked_0 rfl (lv_at hl 1 rfl) ?_
  refine pv_if_ne (tgt := 12) hx hb dL_asked_1 (by decide) (by omega) (fun _ => ?_) (fun c9 => False.elim (by omega))
  refine lv_iload_n hx hb dL_asked_12 rfl (lv_at hl 1 rfl) ?_
  refine pv_iconst hx hb dL_asked_13 ?_
  refine pv_icmp_ne (tgt := 25) hx hb dL_asked_14 (by decide) (by omega) (fun _ => ?_) (fun c9 => False.elim (by omega))
  refine lv_iload_n hx hb dL_asked_25 rfl (lv_at hl 1 rfl) ?_
  refine pv_iconst hx hb dL_asked_26 ?_
  refine pv_icmp_ne (tgt := 38) hx hb dL_asked_27 (by decide) (by omega) (fun _ => ?_) (fun c9 => False.elim (by omega))
  refine lv_iload_n hx hb dL_asked_38 rfl (lv_at hl 1 rfl) ?_
  refine pv_iconst hx hb dL_asked_39 ?_
  refine pv_icmp_ne (tgt := 51) hx hb dL_asked_40 (by decide) (by omega) (fun c9 => False.elim (by omega)) (fun _ => ?_)
  refine lv_aload_n hx hb dL_asked_43 rfl (lv_at hl 0 rfl) ?_
  refine lv_iload_n hx hb dL_asked_44 rfl (lv_at hl 2 rfl) ?_
  refine pu_callV (v := RF lv) (As := [.int (iI (lv))]) (rest := []) CP_mv ⟨hx, hb, hml, hown, hts⟩ (c_at l D cI base st Z x0 x1 x2 x5 x6 x7 lv hlv) (cwV 1 hts gL_asked_X0_at rfl rfl rfl (by decide +kernel) ⟨(Nat.le_of_ble_eq_true rfl), (Nat.le_of_ble_eq_true rfl)⟩) hCP (CP_rc hCP) rfl rfl hl.1 (Nat.le_of_ble_eq_true rfl) dL_asked_45 ⟨Nat.zero_le _, Nat.zero_le _⟩ ?_
  refine lv_goto (tgt := 56) hx hb dL_asked_48 (by decide) ?_
  exact ar_iret hx hb hr hlocks dL_asked_56 rfl
set_option maxHeartbeats 4000000 in
set_option maxRecDepth 100000 in
theorem q_read (l : Launch) (D : va_G) (cI : ClassId) (base st : Nat) (Z : Nat → Nat) (x0 x1 x2 x5 x6 x7 : Nat) {n came MV : Int} {F G SP RF RC : Int → Int} (lv : Int) (hlv : 0 ≤ lv ∧ lv < 4)  : ar_M l yL_asked wsL_asked ({ frames := 2, cells := 0, slots := 0, locals := 41 } : Room) [.ref x0, .int (iI (4)), .int (iI (lv))] (CP D cI base st Z x0 x1 x2 x5 x6 x7 n came MV F G SP RF RC) (RC lv) := by
  refine ar_of (cc := cL_asked) (maxL := 4) (ret := (some .int)) (own := RL) (hh := [(0, 56, 57, 31)]) (by decide) rfl rfl (Nat.le_of_ble_eq_true rfl) ?_
  intro p e s m below meth c ls B hCP hl
  obtain ⟨hx, hb, hml, hr, hts, hown, hlocks⟩ := B
  have hl : lv_has ls 4 [(0, .ref x0), (1, .int (iI (4))), (2, .int (iI (lv)))] := hl
  refine lv_iload_n hx hb dL_asked_0 rfl (lv_at hl 1 rfl) ?_
  refine pv_if_ne (tgt := 12) hx hb dL_asked_1 (by decide) (by omega) (fun _ => ?_) (fun c9 => False.elim (by omega))
  refine lv_iload_n hx hb dL_asked_12 rfl (lv_at hl 1 rfl) ?_
  refine pv_iconst hx hb dL_asked_13 ?_
  refine pv_icmp_ne (tgt := 25) hx hb dL_asked_14 (by decide) (by omega) (fun _ => ?_) (fun c9 => False.elim (by omega))
  refine lv_iload_n hx hb dL_asked_25 rfl (lv_at hl 1 rfl) ?_
  refine pv_iconst hx hb dL_asked_26 ?_
  refine pv_icmp_ne (tgt := 38) hx hb dL_asked_27 (by decide) (by omega) (fun _ => ?_) (fun c9 => False.elim (by omega))
  refine lv_iload_n hx hb dL_asked_38 rfl (lv_at hl 1 rfl) ?_
  refine pv_iconst hx hb dL_asked_39 ?_
  refine pv_icmp_ne (tgt := 51) hx hb dL_asked_40 (by decide) (by omega) (fun _ => ?_) (fun c9 => False.elim (by omega))
  refine lv_aload_n hx hb dL_asked_51 rfl (lv_at hl 0 rfl) ?_
  refine lv_iload_n hx hb dL_asked_52 rfl (lv_at hl 2 rfl) ?_
  refine pu_callV (v := RC lv) (As := [.int (iI (lv))]) (rest := []) CP_mv ⟨hx, hb, hml, hown, hts⟩ (c_read l D cI base st Z x0 x1 x2 x5 x6 x7 lv hlv) (cwV 1 hts gL_asked_X0_read rfl rfl rfl (by decide +kernel) ⟨(Nat.le_of_ble_eq_true rfl), (Nat.le_of_ble_eq_true rfl)⟩) hCP (CP_rc hCP) rfl rfl hl.1 (Nat.le_of_ble_eq_true rfl) dL_asked_53 ⟨Nat.zero_le _, Nat.zero_le _⟩ ?_
  exact ar_iret hx hb hr hlocks dL_asked_56 rfl
set_option maxHeartbeats 4000000 in
set_option maxRecDepth 100000 in
theorem d_putFirst (l : Launch) (D : va_G) (cI : ClassId) (base st : Nat) (Z : Nat → Nat) (x0 x1 x2 x5 x6 x7 : Nat) {n came MV : Int} {F G SP RF RC : Int → Int} (hn : 0 ≤ n ∧ n < 60) (hG : ∀ k : Int, 0 ≤ k → k < n → 0 ≤ G k ∧ G k ≤ 255) (hs : SD G n) (hcm : 0 ≤ came ∧ came < 200) (G2 : Int → Int) (dm : Int) (SP2 : Int → Int) (hPT : PT G n 0 SP G2 dm SP2) (o0 : Int) (o1 : Int) : wr_M l yL_done wsL_done ({ frames := 7, cells := 0, slots := 0, locals := 160 } : Room) [.ref x0, .int (iI (0)), .int (iI (o0)), .int (iI (o1))] (CP D cI base st Z x0 x1 x2 x5 x6 x7 n came MV F G SP RF RC) (came) (fun H => CW D cI base x0 x1 x2 x5 x6 x7 (n + 1) (came + 1) (MV + dm) (insF F 0 came) (G2) (SP2) (RF) (RC) H) (mC x0 x1 x2 x5 x6 x7) 0 0 := by
  refine wr_of (cc := cL_done) (maxL := 5) (ret := (some .int)) (own := RL) (hh := [(0, 57, 58, 29), (0, 57, 63, 31), (0, 57, 68, 33)]) (by decide) rfl rfl (Nat.le_of_ble_eq_true rfl) ?_
  intro p e s m below meth c ls B hTab hCP hl hS
  obtain ⟨hx, hb, hml, hr, hts, hown, hlocks⟩ := B
  have hl : lv_has ls 5 [(0, .ref x0), (1, .int (iI (0))), (2, .int (iI (o0))), (3, .int (iI (o1)))] := hl
  refine lv_iload_n hx hb dL_done_0 rfl (lv_at hl 1 rfl) ?_
  refine pv_if_ne (tgt := 11) hx hb dL_done_1 (by decide) (by omega) (fun c9 => False.elim (by omega)) (fun _ => ?_)
  refine lv_aload_n hx hb dL_done_4 rfl (lv_at hl 0 rfl) ?_
  refine mu_callV (As := []) (rest := []) CP_mv ⟨hx, hb, hml, hown, hts⟩ (c_putFirst l D cI base st Z x0 x1 x2 x5 x6 x7 hn hG hs hcm G2 dm SP2 hPT) (cwV 0 hts gL_done_X0_putFirst rfl rfl rfl (by decide +kernel) ⟨(Nat.le_of_ble_eq_true rfl), (Nat.le_of_ble_eq_true rfl)⟩) hCP (CP_rc hCP) rfl rfl hl.1 (Nat.le_of_ble_eq_true rfl) dL_done_5 ⟨Nat.zero_le _, Nat.zero_le _⟩ hS (fun q h => h) (fun H locs hP2 hz hk hS => ?_)
  refine lv_goto (tgt := 57) hx hb dL_done_8 (by decide) ?_
  exact wr_iret hx hb hr hlocks hS dL_done_57 rfl hP2
set_option maxHeartbeats 4000000 in
set_option maxRecDepth 100000 in
theorem d_putBehind (l : Launch) (D : va_G) (cI : ClassId) (base st : Nat) (Z : Nat → Nat) (x0 x1 x2 x5 x6 x7 : Nat) {n came MV : Int} {F G SP RF RC : Int → Int} (hn : 0 ≤ n ∧ n < 60) (hF : ∀ k : Int, 0 ≤ k → k < n → 0 ≤ F k ∧ F k < 200) (hG : ∀ k : Int, 0 ≤ k → k < n → 0 ≤ G k ∧ G k ≤ 255) (hs : SD G n) (hcm : 0 ≤ came ∧ came < 200) (x : Int) (hxr : (-2147483648 ≤ x ∧ x ≤ 2147483647)) (rp : Int) (hrp : PL F n x rp) (h0 : 0 ≤ rp) (G2 : Int → Int) (dm : Int) (SP2 : Int → Int) (hPT : PT G n (rp + 1) SP G2 dm SP2) (o0 : Int) : wr_M l yL_done wsL_done ({ frames := 7, cells := 0, slots := 0, locals := 162 } : Room) [.ref x0, .int (iI (1)), .int (iI (x)), .int (iI (o0))] (CP D cI base st Z x0 x1 x2 x5 x6 x7 n came MV F G SP RF RC) (came) (fun H => CW D cI base x0 x1 x2 x5 x6 x7 (n + 1) (came + 1) (MV + dm) (insF F (rp + 1) came) (G2) (SP2) (RF) (RC) H) (mC x0 x1 x2 x5 x6 x7) 0 0 := by
  refine wr_of (cc := cL_done) (maxL := 5) (ret := (some .int)) (own := RL) (hh := [(0, 57, 58, 29), (0, 57, 63, 31), (0, 57, 68, 33)]) (by decide) rfl rfl (Nat.le_of_ble_eq_true rfl) ?_
  intro p e s m below meth c ls B hTab hCP hl hS
  obtain ⟨hx, hb, hml, hr, hts, hown, hlocks⟩ := B
  have hl : lv_has ls 5 [(0, .ref x0), (1, .int (iI (1))), (2, .int (iI (x))), (3, .int (iI (o0)))] := hl
  refine lv_iload_n hx hb dL_done_0 rfl (lv_at hl 1 rfl) ?_
  refine pv_if_ne (tgt := 11) hx hb dL_done_1 (by decide) (by omega) (fun _ => ?_) (fun c9 => False.elim (by omega))
  refine lv_iload_n hx hb dL_done_11 rfl (lv_at hl 1 rfl) ?_
  refine pv_iconst hx hb dL_done_12 ?_
  refine pv_icmp_ne (tgt := 24) hx hb dL_done_13 (by decide) (by omega) (fun c9 => False.elim (by omega)) (fun _ => ?_)
  refine lv_aload_n hx hb dL_done_16 rfl (lv_at hl 0 rfl) ?_
  refine lv_iload_n hx hb dL_done_17 rfl (lv_at hl 2 rfl) ?_
  refine mu_callV (As := [.int (iI (x))]) (rest := []) CP_mv ⟨hx, hb, hml, hown, hts⟩ (c_putBehind l D cI base st Z x0 x1 x2 x5 x6 x7 hn hF hG hs hcm x hxr rp hrp h0 G2 dm SP2 hPT) (cwV 1 hts gL_done_X0_putBehind rfl rfl rfl (by decide +kernel) ⟨(Nat.le_of_ble_eq_true rfl), (Nat.le_of_ble_eq_true rfl)⟩) hCP (CP_rc hCP) rfl rfl hl.1 (Nat.le_of_ble_eq_true rfl) dL_done_18 ⟨Nat.zero_le _, Nat.zero_le _⟩ hS (fun q h => h) (fun H locs hP2 hz hk hS => ?_)
  refine lv_goto (tgt := 57) hx hb dL_done_21 (by decide) ?_
  exact wr_iret hx hb hr hlocks hS dL_done_57 rfl hP2
set_option maxHeartbeats 4000000 in
set_option maxRecDepth 100000 in
theorem d_takeOut (l : Launch) (D : va_G) (cI : ClassId) (base st : Nat) (Z : Nat → Nat) (x0 x1 x2 x5 x6 x7 : Nat) {n came MV : Int} {F G SP RF RC : Int → Int} (hn : 0 ≤ n ∧ n ≤ 60) (hF : ∀ k : Int, 0 ≤ k → k < n → 0 ≤ F k ∧ F k < 200) (hRF : ∀ k : Int, 0 ≤ k → k < 4 → -1 ≤ RF k ∧ RF k < 200) (x : Int) (hxr : (-2147483648 ≤ x ∧ x ≤ 2147483647)) (rp : Int) (hrp : PL F n x rp) (h0 : 0 ≤ rp) (o0 : Int) : wr_M l yL_done wsL_done ({ frames := 4, cells := 0, slots := 0, locals := 88 } : Room) [.ref x0, .int (iI (2)), .int (iI (x)), .int (iI (o0))] (CP D cI base st Z x0 x1 x2 x5 x6 x7 n came MV F G SP RF RC) (n - 1) (fun H => CW D cI base x0 x1 x2 x5 x6 x7 (n - 1) (came) (MV) (remF F rp) (remF G rp) (SP) (sendF RF x (fa F n (rp + 1))) (RC) H) (mC x0 x1 x2 x5 x6 x7) 0 0 := by
  refine wr_of (cc := cL_done) (maxL := 5) (ret := (some .int)) (own := RL) (hh := [(0, 57, 58, 29), (0, 57, 63, 31), (0, 57, 68, 33)]) (by decide) rfl rfl (Nat.le_of_ble_eq_true rfl) ?_
  intro p e s m below meth c ls B hTab hCP hl hS
  obtain ⟨hx, hb, hml, hr, hts, hown, hlocks⟩ := B
  have hl : lv_has ls 5 [(0, .ref x0), (1, .int (iI (2))), (2, .int (iI (x))), (3, .int (iI (o0)))] := hl
  refine lv_iload_n hx hb dL_done_0 rfl (lv_at hl 1 rfl) ?_
  refine pv_if_ne (tgt := 11) hx hb dL_done_1 (by decide) (by omega) (fun _ => ?_) (fun c9 => False.elim (by omega))
  refine lv_iload_n hx hb dL_done_11 rfl (lv_at hl 1 rfl) ?_
  refine pv_iconst hx hb dL_done_12 ?_
  refine pv_icmp_ne (tgt := 24) hx hb dL_done_13 (by decide) (by omega) (fun _ => ?_) (fun c9 => False.elim (by omega))
  refine lv_iload_n hx hb dL_done_24 rfl (lv_at hl 1 rfl) ?_
  refine pv_iconst hx hb dL_done_25 ?_
  refine pv_icmp_ne (tgt := 37) hx hb dL_done_26 (by decide) (by omega) (fun c9 => False.elim (by omega)) (fun _ => ?_)
  refine lv_aload_n hx hb dL_done_29 rfl (lv_at hl 0 rfl) ?_
  refine lv_iload_n hx hb dL_done_30 rfl (lv_at hl 2 rfl) ?_
  refine mu_callV (As := [.int (iI (x))]) (rest := []) CP_mv ⟨hx, hb, hml, hown, hts⟩ (c_takeOut l D cI base st Z x0 x1 x2 x5 x6 x7 hn hF hRF x hxr rp hrp h0) (cwV 1 hts gL_done_X0_takeOut rfl rfl rfl (by decide +kernel) ⟨(Nat.le_of_ble_eq_true rfl), (Nat.le_of_ble_eq_true rfl)⟩) hCP (CP_rc hCP) rfl rfl hl.1 (Nat.le_of_ble_eq_true rfl) dL_done_31 ⟨Nat.zero_le _, Nat.zero_le _⟩ hS (fun q h => h) (fun H locs hP2 hz hk hS => ?_)
  refine lv_goto (tgt := 57) hx hb dL_done_34 (by decide) ?_
  exact wr_iret hx hb hr hlocks hS dL_done_57 rfl hP2
set_option maxHeartbeats 4000000 in
set_option maxRecDepth 100000 in
theorem d_carry (l : Launch) (D : va_G) (cI : ClassId) (base st : Nat) (Z : Nat → Nat) (x0 x1 x2 x5 x6 x7 : Nat) {n came MV : Int} {F G SP RF RC : Int → Int} (hn : 0 ≤ n ∧ n ≤ 60) (hF : ∀ k : Int, 0 ≤ k → k < n → 0 ≤ F k ∧ F k < 200) (hG : ∀ k : Int, 0 ≤ k → k < n → 0 ≤ G k ∧ G k ≤ 255) (hs : SD G n) (x : Int) (hxr : (-2147483648 ≤ x ∧ x ≤ 2147483647)) (rp : Int) (hrp : PL F n x rp) (h0 : 0 ≤ rp) (y : Int) (hyr : (-2147483648 ≤ y ∧ y ≤ 2147483647)) (ro : Int) (hro : PL F n y ro) (h1 : 0 ≤ ro) (hne : x ≠ y) (rq : Int) (hrq : PL (remF F rp) (n - 1) y rq) (h2 : 0 ≤ rq) (hG1 : ∀ k : Int, 0 ≤ k → k < n - 1 → 0 ≤ remF G rp k ∧ remF G rp k ≤ 255) (hs1 : SD (remF G rp) (n - 1)) (hF1 : ∀ k : Int, 0 ≤ k → k < n - 1 → 0 ≤ remF F rp k ∧ remF F rp k < 200) (G2 : Int → Int) (dm : Int) (SP2 : Int → Int) (hPT : PT (remF G rp) (n - 1) (rq + 1) SP G2 dm SP2) (hF2 : ∀ k : Int, 0 ≤ k → k < n → 0 ≤ insF (remF F rp) (rq + 1) x k ∧ insF (remF F rp) (rq + 1) x k < 200) (hrz : PL (insF (remF F rp) (rq + 1) x) n x (rq + 1))  : wr_M l yL_done wsL_done ({ frames := 7, cells := 0, slots := 0, locals := 162 } : Room) [.ref x0, .int (iI (3)), .int (iI (x)), .int (iI (y))] (CP D cI base st Z x0 x1 x2 x5 x6 x7 n came MV F G SP RF RC) (G2 (rq + 1)) (fun H => CW D cI base x0 x1 x2 x5 x6 x7 (n - 1 + 1) (came) (MV + dm) (insF (remF F rp) (rq + 1) x) (G2) (SP2) (RF) (RC) H) (mC x0 x1 x2 x5 x6 x7) 0 0 := by
  refine wr_of (cc := cL_done) (maxL := 5) (ret := (some .int)) (own := RL) (hh := [(0, 57, 58, 29), (0, 57, 63, 31), (0, 57, 68, 33)]) (by decide) rfl rfl (Nat.le_of_ble_eq_true rfl) ?_
  intro p e s m below meth c ls B hTab hCP hl hS
  obtain ⟨hx, hb, hml, hr, hts, hown, hlocks⟩ := B
  have hl : lv_has ls 5 [(0, .ref x0), (1, .int (iI (3))), (2, .int (iI (x))), (3, .int (iI (y)))] := hl
  refine lv_iload_n hx hb dL_done_0 rfl (lv_at hl 1 rfl) ?_
  refine pv_if_ne (tgt := 11) hx hb dL_done_1 (by decide) (by omega) (fun _ => ?_) (fun c9 => False.elim (by omega))
  refine lv_iload_n hx hb dL_done_11 rfl (lv_at hl 1 rfl) ?_
  refine pv_iconst hx hb dL_done_12 ?_
  refine pv_icmp_ne (tgt := 24) hx hb dL_done_13 (by decide) (by omega) (fun _ => ?_) (fun c9 => False.elim (by omega))
  refine lv_iload_n hx hb dL_done_24 rfl (lv_at hl 1 rfl) ?_
  refine pv_iconst hx hb dL_done_25 ?_
  refine pv_icmp_ne (tgt := 37) hx hb dL_done_26 (by decide) (by omega) (fun _ => ?_) (fun c9 => False.elim (by omega))
  refine lv_iload_n hx hb dL_done_37 rfl (lv_at hl 1 rfl) ?_
  refine pv_iconst hx hb dL_done_38 ?_
  refine pv_icmp_ne (tgt := 51) hx hb dL_done_39 (by decide) (by omega) (fun c9 => False.elim (by omega)) (fun _ => ?_)
  refine lv_aload_n hx hb dL_done_42 rfl (lv_at hl 0 rfl) ?_
  refine lv_iload_n hx hb dL_done_43 rfl (lv_at hl 2 rfl) ?_
  refine lv_iload_n hx hb dL_done_44 rfl (lv_at hl 3 rfl) ?_
  refine mu_callV (As := [.int (iI (x)), .int (iI (y))]) (rest := []) CP_mv ⟨hx, hb, hml, hown, hts⟩ (c_carry l D cI base st Z x0 x1 x2 x5 x6 x7 hn hF hG hs x hxr rp hrp h0 y hyr ro hro h1 hne rq hrq h2 hG1 hs1 hF1 G2 dm SP2 hPT hF2 hrz) (cwV 2 hts gL_done_X0_carry rfl rfl rfl (by decide +kernel) ⟨(Nat.le_of_ble_eq_true rfl), (Nat.le_of_ble_eq_true rfl)⟩) hCP (CP_rc hCP) rfl rfl hl.1 (Nat.le_of_ble_eq_true rfl) dL_done_45 ⟨Nat.zero_le _, Nat.zero_le _⟩ hS (fun q h => h) (fun H locs hP2 hz hk hS => ?_)
  refine lv_goto (tgt := 57) hx hb dL_done_48 (by decide) ?_
  exact wr_iret hx hb hr hlocks hS dL_done_57 rfl hP2
set_option maxHeartbeats 4000000 in
set_option maxRecDepth 100000 in
theorem d_carry3 (l : Launch) (D : va_G) (cI : ClassId) (base st : Nat) (Z : Nat → Nat) (x0 x1 x2 x5 x6 x7 : Nat) {n came MV : Int} {F G SP RF RC : Int → Int} (hfl : l.stackTraces = false) (hn : 0 ≤ n ∧ n ≤ 60) (hF : ∀ k : Int, 0 ≤ k → k < n → 0 ≤ F k ∧ F k < 200) (x : Int) (hxr : (-2147483648 ≤ x ∧ x ≤ 2147483647)) (rp : Int) (hrp : PL F n x rp) (h0 : 0 ≤ rp)  : wr_M l yL_done wsL_done ({ frames := 7, cells := 1, slots := 6, locals := 115 } : Room) [.ref x0, .int (iI (3)), .int (iI (x)), .int (iI (x))] (DP D cI base st Z x0 x1 x2 x5 x6 x7 n came MV F G SP RF RC) (-60) (fun H => CW D cI base x0 x1 x2 x5 x6 x7 n came MV F G SP RF RC H) (mC x0 x1 x2 x5 x6 x7) 1 6 := by
  refine wr_of (cc := cL_done) (maxL := 5) (ret := (some .int)) (own := RL) (hh := [(0, 57, 58, 29), (0, 57, 63, 31), (0, 57, 68, 33)]) (by decide) rfl rfl (Nat.le_of_ble_eq_true rfl) ?_
  intro p e s m below meth c ls B hTab hCP hl hS
  obtain ⟨hx, hb, hml, hr, hts, hown, hlocks⟩ := B
  obtain ⟨hCP, hnc1, hnc2⟩ := hCP
  have hl : lv_has ls 5 [(0, .ref x0), (1, .int (iI (3))), (2, .int (iI (x))), (3, .int (iI (x)))] := hl
  refine lv_iload_n hx hb dL_done_0 rfl (lv_at hl 1 rfl) ?_
  refine pv_if_ne (tgt := 11) hx hb dL_done_1 (by decide) (by omega) (fun _ => ?_) (fun c9 => False.elim (by omega))
  refine lv_iload_n hx hb dL_done_11 rfl (lv_at hl 1 rfl) ?_
  refine pv_iconst hx hb dL_done_12 ?_
  refine pv_icmp_ne (tgt := 24) hx hb dL_done_13 (by decide) (by omega) (fun _ => ?_) (fun c9 => False.elim (by omega))
  refine lv_iload_n hx hb dL_done_24 rfl (lv_at hl 1 rfl) ?_
  refine pv_iconst hx hb dL_done_25 ?_
  refine pv_icmp_ne (tgt := 37) hx hb dL_done_26 (by decide) (by omega) (fun _ => ?_) (fun c9 => False.elim (by omega))
  refine lv_iload_n hx hb dL_done_37 rfl (lv_at hl 1 rfl) ?_
  refine pv_iconst hx hb dL_done_38 ?_
  refine pv_icmp_ne (tgt := 51) hx hb dL_done_39 (by decide) (by omega) (fun c9 => False.elim (by omega)) (fun _ => ?_)
  refine lv_aload_n hx hb dL_done_42 rfl (lv_at hl 0 rfl) ?_
  refine lv_iload_n hx hb dL_done_43 rfl (lv_at hl 2 rfl) ?_
  refine lv_iload_n hx hb dL_done_44 rfl (lv_at hl 3 rfl) ?_
  refine th_callV (As := [.int (iI (x)), .int (iI (x))]) (rest := []) CP_mv ⟨hx, hb, hml, hown, hts⟩ (t_carry3 l D cI base st Z x0 x1 x2 x5 x6 x7 hfl hn hF x hxr rp hrp h0) (cwV 2 hts gL_done_X0_carry rfl rfl rfl (by decide +kernel) ⟨(Nat.le_of_ble_eq_true rfl), (Nat.le_of_ble_eq_true rfl)⟩) hCP (CP_rc hCP) rfl rfl hl.1 (Nat.le_of_ble_eq_true rfl) dL_done_45 ⟨(Nat.le_of_ble_eq_true rfl), (Nat.le_of_ble_eq_true rfl)⟩ (fun H1 ce q9 h1 h2 h3 h4 h5 => ?_)
  obtain ⟨hK, hZL, hst9, hTW⟩ := id hCP.1
  obtain ⟨tw0, tw1, tw2, tw3, kw0, kw1, kw2, kd0, kd1, kd2, hU9, hN9⟩ := hTW
  refine vx_catch (own := RL) (name := "java/lang/IllegalArgumentException") hown [⟨0, 57, 58, 29⟩, ⟨0, 57, 63, 31⟩] ⟨0, 57, 68, 33⟩ [] (hTab.trans rfl) (fun z hz => ?_) rfl (by decide) (hts (.classLink RL 33 "java/lang/IllegalArgumentException") (by decide +kernel)) (va_Nw.use rfl kw2) h3 h4 h5 ?_
  · rcases List.mem_cons.mp hz with e9 | e9
    · rw [e9]; exact Or.inr ⟨by decide, "java/lang/IllegalStateException", hts (.classLink RL 29 "java/lang/IllegalStateException") (by decide +kernel), hnc1⟩
    · rw [List.mem_singleton.mp e9]; exact Or.inr ⟨by decide, "java/lang/IndexOutOfBoundsException", hts (.classLink RL 31 "java/lang/IndexOutOfBoundsException") (by decide +kernel), hnc2⟩
  show W p l e _ s m _ below meth c H1 [] (0 + 1) (0 + 6) _ (F0 m 68 ls [.ref q9])
  refine lv_astore (lv' := [(4, .ref q9), (0, .ref x0), (1, .int (iI (3))), (2, .int (iI (x))), (3, .int (iI (x)))]) hx hb dL_done_68 hl (by decide) rfl (fun ls hl => ?_)
  refine pv_bipush hx hb dL_done_70 (by decide +kernel) ?_
  have hk : ∀ q : Nat, q < s.heap.size → ¬ (fun _ => False) q → H1[q]? = s.heap[q]? := fun q a _ => h2 q a
  exact wr_iret hx hb hr hlocks ⟨h1, fun q a _ => h2 q a, fun _ h => by cases h⟩ dL_done_72 rfl (CW_fr hCP.2 hk (fun _ _ h => h))
set_option maxHeartbeats 4000000 in
set_option maxRecDepth 100000 in
theorem d_seat (l : Launch) (D : va_G) (cI : ClassId) (base st : Nat) (Z : Nat → Nat) (x0 x1 x2 x5 x6 x7 : Nat) {n came MV : Int} {F G SP RF RC : Int → Int} (hn : 0 ≤ n ∧ n ≤ 60) (hF : ∀ k : Int, 0 ≤ k → k < n → 0 ≤ F k ∧ F k < 200) (hRF : ∀ k : Int, 0 ≤ k → k < 4 → -1 ≤ RF k ∧ RF k < 200) (u : Int) (hu : 0 ≤ u ∧ u < 4) (x : Int) (hxr : (-2147483648 ≤ x ∧ x ≤ 2147483647)) (rp : Int) (hrp : PL F n x rp) (h0 : 0 ≤ rp)  : wr_M l yL_done wsL_done ({ frames := 3, cells := 0, slots := 0, locals := 66 } : Room) [.ref x0, .int (iI (4)), .int (iI (x)), .int (iI (u))] (CP D cI base st Z x0 x1 x2 x5 x6 x7 n came MV F G SP RF RC) (cn (fun k => decide (uI RF u x k = x)) 4) (fun H => CW D cI base x0 x1 x2 x5 x6 x7 (n) (came) (MV) (F) (G) (SP) (uI RF u x) (RC) H) (mC x0 x1 x2 x5 x6 x7) 0 0 := by
  refine wr_of (cc := cL_done) (maxL := 5) (ret := (some .int)) (own := RL) (hh := [(0, 57, 58, 29), (0, 57, 63, 31), (0, 57, 68, 33)]) (by decide) rfl rfl (Nat.le_of_ble_eq_true rfl) ?_
  intro p e s m below meth c ls B hTab hCP hl hS
  obtain ⟨hx, hb, hml, hr, hts, hown, hlocks⟩ := B
  have hl : lv_has ls 5 [(0, .ref x0), (1, .int (iI (4))), (2, .int (iI (x))), (3, .int (iI (u)))] := hl
  refine lv_iload_n hx hb dL_done_0 rfl (lv_at hl 1 rfl) ?_
  refine pv_if_ne (tgt := 11) hx hb dL_done_1 (by decide) (by omega) (fun _ => ?_) (fun c9 => False.elim (by omega))
  refine lv_iload_n hx hb dL_done_11 rfl (lv_at hl 1 rfl) ?_
  refine pv_iconst hx hb dL_done_12 ?_
  refine pv_icmp_ne (tgt := 24) hx hb dL_done_13 (by decide) (by omega) (fun _ => ?_) (fun c9 => False.elim (by omega))
  refine lv_iload_n hx hb dL_done_24 rfl (lv_at hl 1 rfl) ?_
  refine pv_iconst hx hb dL_done_25 ?_
  refine pv_icmp_ne (tgt := 37) hx hb dL_done_26 (by decide) (by omega) (fun _ => ?_) (fun c9 => False.elim (by omega))
  refine lv_iload_n hx hb dL_done_37 rfl (lv_at hl 1 rfl) ?_
  refine pv_iconst hx hb dL_done_38 ?_
  refine pv_icmp_ne (tgt := 51) hx hb dL_done_39 (by decide) (by omega) (fun _ => ?_) (fun c9 => False.elim (by omega))
  refine lv_aload_n hx hb dL_done_51 rfl (lv_at hl 0 rfl) ?_
  refine lv_iload_n hx hb dL_done_52 rfl (lv_at hl 3 rfl) ?_
  refine lv_iload_n hx hb dL_done_53 rfl (lv_at hl 2 rfl) ?_
  refine mu_callV (As := [.int (iI (u)), .int (iI (x))]) (rest := []) CP_mv ⟨hx, hb, hml, hown, hts⟩ (c_seat l D cI base st Z x0 x1 x2 x5 x6 x7 hn hF hRF u hu x hxr rp hrp h0) (cwV 2 hts gL_done_X0_seat rfl rfl rfl (by decide +kernel) ⟨(Nat.le_of_ble_eq_true rfl), (Nat.le_of_ble_eq_true rfl)⟩) hCP (CP_rc hCP) rfl rfl hl.1 (Nat.le_of_ble_eq_true rfl) dL_done_54 ⟨Nat.zero_le _, Nat.zero_le _⟩ hS (fun q h => h) (fun H locs hP2 hz hk hS => ?_)
  exact wr_iret hx hb hr hlocks hS dL_done_57 rfl hP2
end
section
theorem va_D1 {A : Nat → Prop} {a : Nat} {e : va_E} (h : A a) : va_D A [(a, e)] := by
  refine ⟨fun i j p q hi hj _ => ?_, fun k q hq => ?_⟩
  · match i, hi with
    | 0, _ =>
      match j, hj with
      | 0, _ => rfl
      | j + 1, hj => simp at hj
    | i + 1, hi => simp at hi
  · match k, hq with
    | 0, hq => cases hq; exact h
    | k + 1, hq => simp at hq
def in_M (l : Launch) (y : MethodName) (ws : List Cond) (rm : Room) (av : List Value) (P : State → Heap → Prop) (P2 : Heap → Prop) (A : Nat → Prop) (mc ms : Nat) : Prop := Met l y ws rm (va_Pc av (fun U => P U U.heap)) (mu_Q none P2 A) mc ms A
section IN1
variable {p : Program} {l : Launch} {e : Env} {R : Room} {s : State} {m : MethodId} {args : Array Value} {below : List Frame} {meth : Method} {c : Code} {H : Heap} {locs : List Loc} {cells slots : Nat} {Q : State → Prop}
variable {y : MethodName} {bytes cc : ByteArray} {maxL nL n index : Nat} {ret : Option FieldType} {ws ws' : List Cond} {rm : Room} {P : State → Heap → Prop} {Ts : List Cond} {own : String} {b : Addr} {As rest st0 : List Value} {pc : Nat} {ls : Array Slot}
theorem in_callI {P2 : Heap → Prop} {A A0 : Nat → Prop} {H0 : Heap} {mc ms : Nat} (hm : mvb P) (S : CallFix p m c cc nL s args Ts own) (hM : in_M l y ws rm (.ref b :: As) P P2 A mc ms) (cw : CallB R s args own index y bytes maxL none ws rm mc ms n ∧ y.name = "<init>" ∧ (Cond.instanceMethod y).before args s = true) (hP : P s H)
    (hst : st0 = As.reverse ++ .ref b :: rest) (hn : As.length = n) (hsz : ls.size = nL) (hW : (rest.map fun v => v.category).sum ≤ 8) (d : decode cc pc = .ok (.invokespecial index, 3)) (hf : cells + mc ≤ R.cells ∧ slots + ms ≤ R.slots)
    (hS : va_S A0 H0 H locs) (hA : ∀ q, A q → A0 q)
    (kk : ∀ (H1 : Heap) (locs1 : List Loc), P2 H1 → H.size ≤ H1.size → (∀ q : Nat, q < H.size → ¬ A q → H1[q]? = H[q]?) → va_S A0 H0 H1 locs1 → W p l e R s m args below meth c H1 locs1 (cells + mc) (slots + ms) Q (F0 m (pc + 3) ls rest)) : W p l e R s m args below meth c H locs cells slots Q (F0 m pc ls st0) := by
  intro T hT X
  obtain ⟨v9, st₀, t, T', L, h0, X', hL, e1, e2, ⟨hv, hp2, hz, hk⟩, st⟩ := (va_runI S hM cw ⟨blind_of hm _, fun U hU hw => ⟨rfl, by show P U U.heap; rw [hU]; exact hm s U H hw hP⟩⟩ (g := F0 m pc ls st0) rfl hn hsz hst (lv_room hW) d hf) T hT X
  cases hv
  rw [h0] at hz hk
  obtain ⟨t2, a1, b1⟩ := kk T'.heap (locs ++ L) (by rw [e1]; exact hp2) (by rw [e1]; exact hz) (by rw [e1]; exact hk)
    ⟨Nat.le_trans hS.1 (by rw [e1]; exact hz), fun q h1 h2 => by rw [e1, hk q (Nat.lt_of_lt_of_le h1 hS.1) (fun z => h2 (hA q z))]; exact hS.2.1 q h1 h2, fun q hq => by
      rcases List.mem_append.mp hq with h | h
      · exact hS.2.2 q h
      · exact hA _ (hL q h)⟩ T' rfl X'
  exact ⟨t2, st t2 a1, b1⟩
theorem in_of {av : List Value} {mc ms : Nat} {P2 : Heap → Prop} {A : Nat → Prop} (hy : plainName y.cls = true) (hw : ws = Cond.code y cc maxL none :: ws') (ho : y.cls = own) (hlen : (lg_sl av).length ≤ maxL)
    (body : ∀ (p : Program) (e : Env) (s : State) (m : MethodId) (below : List Frame) (meth : Method) (c : Code) (ls : Array Slot), bd_At p s m av.toArray meth c cc maxL none ws own → meth.name = y.name → P s s.heap → lv_has ls maxL (lv_args 0 av) →
      W p l e rm s m av.toArray below meth c s.heap [] 0 0 (MQ below (mu_Q none P2 A) av.toArray s mc ms A) (F0 m 0 ls [])) : in_M l y ws rm av P P2 A mc ms := by
  refine Met.ofW (cc := cc) (maxL := maxL) (ret := none) hy hw ?_
  intro p e s m args below meth c s₁ B hml hv
  obtain ⟨rfl, hP⟩ := hv
  have hown : s.vm.findClass y.cls = some m.cls := findClass_of_methodNamed B.named
  rw [ho] at hown
  rw [lg_entry_eq]
  exact body p e s m below meth c _ ⟨B.exec, B.bytes, hml, B.returns, atoms_spec (ws := ws) B.pre, hown, B.notSynchronized⟩ (name_of_methodNamed B.named B.method).1 hP (lv_entry av hlen)
theorem in_vret {P2 : Heap → Prop} {A : Nat → Prop} (hx : p.tables.exec = Jvm.exec) (hb : c.code = cc) (hr : meth.sig.returnType = none) (hlocks : meth.locks = false) (hS : va_S A s.heap H locs) (d : decode cc pc = .ok (.return_, 1)) (h2 : P2 H) : W p l e R s m args below meth c H locs cells slots (MQ below (mu_Q none P2 A) args s cells slots A) (F0 m pc ls []) :=
  W.vret hx hb hr (fun t ht _ => ⟨rfl, by rw [ht]; exact h2, hS.F ht⟩) hS.2.2 d hlocks
theorem pv_newa {D : va_G} {cl : List vw_C} {wl : va_W} {tys : List (ClassId × FieldType)} {A : Nat → Prop} {H0 : Heap} (hx : p.tables.exec = Jvm.exec) (hb : c.code = cc) {atype : ArrayType} (harr : (Cond.arrayClass (newarray.typeOf atype)).before args s = true) {ty : FieldType} (hty : newarray.typeOf atype = ty) (hK : va_K D cl tys s) (t0 : Nat) {cI : ClassId} (ht : tys[t0]? = some (cI, ty)) (hRA : ∀ (U : State) (k : ClassId), va_RA U k ty → U.vm.findClass ("[" ++ ty.toString) = some k)
    (hP : va_P D cl wl H) (hD : va_D A wl) (hS : va_S A H0 H locs) (hA : ∀ q, H0.size ≤ q → A q) {k9 : Int} {N2 : Nat} {a0 : vp_A} (ha : ∀ cA : ClassId, vp_cell cA a0 = arrV cA N2 (fun _ => defaultValue ty)) (hk : 0 ≤ k9 ∧ k9 ≤ 65536) (hN : k9.toNat = N2) (hbytes : N2 * componentBytes ty ≤ 536870912) (hcells : cells + 1 ≤ R.cells) (hslots : slots + N2 ≤ R.slots) (d : decode cc pc = .ok (.newarray atype, 2))
    (kk : ∀ (q : Nat) (H1 : Heap), va_P D cl (wl ++ [(q, .inl (cI, a0))]) H1 → va_D A (wl ++ [(q, .inl (cI, a0))]) → va_S A H0 H1 locs →
      W p l e R s m args below meth c H1 locs (cells + 1) (slots + N2) Q (F0 m (pc + 2) ls (.ref q :: rest))) : W p l e R s m args below meth c H locs cells slots Q (F0 m pc ls (.int (iI k9) :: rest)) := by
  have h0 : ¬ iI k9 < 0 := by
    rw [← iI_0, iI_lt (by omega) (by omega)]
    omega
  refine va_newa hx hb harr hty hK hP hD hS hA ha h0 (by rw [iI_N ⟨hk.1, by omega⟩]; exact hN) hbytes hcells hslots d (fun q cA H1 hK2 hP2 hD2 hS2 => ?_)
  have e1 := hRA s cI (hK.2 t0 _ ht).2
  have e2 := hRA s cA (hK2.2 tys.length (cA, ty) (by rw [List.getElem?_append_right (Nat.le_refl _)]; simp)).2
  have e3 : cA = cI := Option.some.inj (e2.symm.trans e1)
  subst e3
  exact kk q H1 hP2 hD2 hS2
end IN1
def IP0 (D : va_G) (cI : ClassId) (base st : Nat) (Z : Nat → Nat) (x0 sz : Nat) : State → Heap → Prop := fun U H => SW D cI base st Z U H ∧ va_P D vwCl [(x0, .inr (0, [.null, .null, .int (iI 0), .int (iI 0), .int (iI 0), .null, .null, .null]))] H ∧ H.size = sz ∧ base ≤ x0
theorem IP0_mv {D : va_G} {cI : ClassId} {base st : Nat} {Z : Nat → Nat} {x0 sz : Nat} : mvb (IP0 D cI base st Z x0 sz) := fun _ _ _ hW h => ⟨h.1.move hW, h.2⟩
set_option maxHeartbeats 4000000 in
set_option maxRecDepth 100000 in
theorem c_init (l : Launch) (D : va_G) (cI : ClassId) (base st : Nat) (Z : Nat → Nat) (x0 sz : Nat) : in_M l yX0_init wsX0_init ({ frames := 1, cells := 5, slots := 137, locals := 20 } : Room) [.ref x0] (IP0 D cI base st Z x0 sz) (fun H => ∃ x1 x2 x5 x6 x7 : Nat, CW D cI base x0 x1 x2 x5 x6 x7 0 0 0 (fun _ => 0) (fun _ => 0) (fun _ => 0) (fun _ => -1) (fun _ => 0) H ∧ ∀ q, mC x0 x1 x2 x5 x6 x7 q → q = x0 ∨ sz ≤ q) (fun q => q = x0 ∨ sz ≤ q) 5 137 := by
  refine in_of (cc := cX0_init) (maxL := 2) (own := RX0) (by decide) rfl rfl (Nat.le_of_ble_eq_true rfl) ?_
  intro p e s m below meth c ls B hin2 hI hl
  obtain ⟨hx, hb, hml, hr, hts, hown, hlocks⟩ := B
  obtain ⟨hSW0, hP, hsz, hbx⟩ := hI
  obtain ⟨hK, hZL, ⟨hstb, xs, hXL, hAL⟩, hTW⟩ := id hSW0
  subst hsz
  have hx0 : x0 < s.heap.size := (hP 0 _ rfl).lt
  have hl : lv_has ls 2 [(0, .ref x0)] := hl
  have hin : ∀ w ∈ u_ws RX0 TX0 8, w ∈ wsX0_init := by decide +kernel
  have hmb : ∀ q, (fun q : Nat => q = x0 ∨ s.heap.size ≤ q) q → base ≤ q := fun q h => by rcases h with h | h <;> omega
  have hA : ∀ q : Nat, s.heap.size ≤ q → (fun q : Nat => q = x0 ∨ s.heap.size ≤ q) q := fun q h => Or.inr h
  have hS : va_S (fun q : Nat => q = x0 ∨ s.heap.size ≤ q) s.heap s.heap [] := va_S.rf
  have hD : va_D (fun q : Nat => q = x0 ∨ s.heap.size ≤ q) [(x0, .inr (0, [.null, .null, .int (iI 0), .int (iI 0), .int (iI 0), .null, .null, .null]))] := va_D1 (Or.inl rfl)
  refine lv_aload_n hx hb dX0_init_0 rfl (lv_at hl 0 rfl) ?_
  refine W.objInit hx hb hown (hts (.methodLink RX0 1 objectInit) (by decide +kernel)) (hts (.instanceMethod objectInit) (by decide +kernel)) (hts (.code objectInit ⟨#[0xb1]⟩ 1 none) (by decide +kernel)) rfl (by rw [hml]; exact hl.1) rfl dX0_init_1 (Nat.le_of_ble_eq_true rfl) (Nat.le_of_ble_eq_true rfl) ?_
  refine W.eq (g2 := F0 m 4 ls []) rfl ?_
  refine lv_aload_n hx hb dX0_init_4 rfl (lv_at hl 0 rfl) ?_
  refine pv_bipush hx hb dX0_init_5 (by decide +kernel) ?_
  refine pv_newa (ty := .int) (atype := .int) (N2 := 60) (a0 := (60, .inl (fun _ => iI 0))) hx hb (hts (.arrayClass .int) (by decide +kernel)) rfl hK 0 rfl (fun _ _ h => h) hP hD hS hA (fun cA => by rw [iI_0]; rfl) (by omega) rfl (Nat.le_of_ble_eq_true rfl) (Nat.le_of_ble_eq_true rfl) (Nat.le_of_ble_eq_true rfl) dX0_init_7 (fun x1 H hP hD hS => ?_)
  have hP : va_P D vwCl [(x0, .inr (0, [.null, .null, .int (iI 0), .int (iI 0), .int (iI 0), .null, .null, .null])), (x1, .inl (cI, 60, .inl (fun _ => iI 0)))] H := hP
  have hD : va_D (fun q : Nat => q = x0 ∨ s.heap.size ≤ q) [(x0, .inr (0, [.null, .null, .int (iI 0), .int (iI 0), .int (iI 0), .null, .null, .null])), (x1, .inl (cI, 60, .inl (fun _ => iI 0)))] := hD
  refine va_putF (D := D) (ci := 0) (v := .ref x1) (ty := .array .int) (C := RX0) (T := TX0) (N := 8) hx hb hts hin tyX0 tyX0_ok nmX0 hown hK hP hD hS 0 rfl rfl 0 (by decide) (hts (.fieldLink RX0 9 "ShelfMarks" "folders" "[I") (by decide +kernel)) (fun _ h9 => h9) rfl hin2 rfl (by decide +kernel) rfl rfl (Nat.le_of_ble_eq_true rfl) dX0_init_9 (fun H locs hP hD hS => ?_)
  have hP : va_P D vwCl [(x0, .inr (0, [.ref x1, .null, .int (iI 0), .int (iI 0), .int (iI 0), .null, .null, .null])), (x1, .inl (cI, 60, .inl (fun _ => iI 0)))] H := hP
  have hD : va_D (fun q : Nat => q = x0 ∨ s.heap.size ≤ q) [(x0, .inr (0, [.ref x1, .null, .int (iI 0), .int (iI 0), .int (iI 0), .null, .null, .null])), (x1, .inl (cI, 60, .inl (fun _ => iI 0)))] := hD
  refine lv_aload_n hx hb dX0_init_12 rfl (lv_at hl 0 rfl) ?_
  refine pv_bipush hx hb dX0_init_13 (by decide +kernel) ?_
  refine pv_newa (ty := .int) (atype := .int) (N2 := 60) (a0 := (60, .inl (fun _ => iI 0))) hx hb (hts (.arrayClass .int) (by decide +kernel)) rfl hK 0 rfl (fun _ _ h => h) hP hD hS hA (fun cA => by rw [iI_0]; rfl) (by omega) rfl (Nat.le_of_ble_eq_true rfl) (Nat.le_of_ble_eq_true rfl) (Nat.le_of_ble_eq_true rfl) dX0_init_15 (fun x2 H hP hD hS => ?_)
  have hP : va_P D vwCl [(x0, .inr (0, [.ref x1, .null, .int (iI 0), .int (iI 0), .int (iI 0), .null, .null, .null])), (x1, .inl (cI, 60, .inl (fun _ => iI 0))), (x2, .inl (cI, 60, .inl (fun _ => iI 0)))] H := hP
  have hD : va_D (fun q : Nat => q = x0 ∨ s.heap.size ≤ q) [(x0, .inr (0, [.ref x1, .null, .int (iI 0), .int (iI 0), .int (iI 0), .null, .null, .null])), (x1, .inl (cI, 60, .inl (fun _ => iI 0))), (x2, .inl (cI, 60, .inl (fun _ => iI 0)))] := hD
  refine va_putF (D := D) (ci := 0) (v := .ref x2) (ty := .array .int) (C := RX0) (T := TX0) (N := 8) hx hb hts hin tyX0 tyX0_ok nmX0 hown hK hP hD hS 0 rfl rfl 1 (by decide) (hts (.fieldLink RX0 13 "ShelfMarks" "marks" "[I") (by decide +kernel)) (fun _ h9 => h9) rfl hin2 rfl (by decide +kernel) rfl rfl (Nat.le_of_ble_eq_true rfl) dX0_init_17 (fun H locs hP hD hS => ?_)
  have hP : va_P D vwCl [(x0, .inr (0, [.ref x1, .ref x2, .int (iI 0), .int (iI 0), .int (iI 0), .null, .null, .null])), (x1, .inl (cI, 60, .inl (fun _ => iI 0))), (x2, .inl (cI, 60, .inl (fun _ => iI 0)))] H := hP
  have hD : va_D (fun q : Nat => q = x0 ∨ s.heap.size ≤ q) [(x0, .inr (0, [.ref x1, .ref x2, .int (iI 0), .int (iI 0), .int (iI 0), .null, .null, .null])), (x1, .inl (cI, 60, .inl (fun _ => iI 0))), (x2, .inl (cI, 60, .inl (fun _ => iI 0)))] := hD
  refine lv_aload_n hx hb dX0_init_20 rfl (lv_at hl 0 rfl) ?_
  have hSb : va_S (fun q => base ≤ q) s.heap H locs := ⟨hS.1, fun q a b => hS.2.1 q a (fun z => b (hmb q z)), fun l h => hmb _ (hS.2.2 l h)⟩
  refine va_gets (A := fun q => base ≤ q) hx hb hZL hSb hown (hts (.fieldLink RX0 16 "ShelfMarks" "LOADED_FROM" "[I") (by decide +kernel)) (fun _ h => h) dX0_init_21 ?_
  have hstl : st < s.heap.size := by obtain ⟨scr, h1, -⟩ := hXL; exact (Array.getElem?_eq_some_iff.mp h1).1
  have hXH : va_T .int st 9 (fun j => .int (xs j)) (fun q => base ≤ q) s H := hXL.kept (fun q hq hnb => hS.2.1 q hq (fun z => hnb (hmb q z)))
  refine pv_xlen (v := 9) hx hb hXH (by decide +kernel) dX0_init_24 ?_
  refine pv_newa (ty := .int) (atype := .int) (N2 := 9) (a0 := (9, .inl (fun _ => iI 0))) hx hb (hts (.arrayClass .int) (by decide +kernel)) rfl hK 0 rfl (fun _ _ h => h) hP hD hS hA (fun cA => by rw [iI_0]; rfl) (by omega) rfl (Nat.le_of_ble_eq_true rfl) (Nat.le_of_ble_eq_true rfl) (Nat.le_of_ble_eq_true rfl) dX0_init_25 (fun x5 H hP hD hS => ?_)
  have hP : va_P D vwCl [(x0, .inr (0, [.ref x1, .ref x2, .int (iI 0), .int (iI 0), .int (iI 0), .null, .null, .null])), (x1, .inl (cI, 60, .inl (fun _ => iI 0))), (x2, .inl (cI, 60, .inl (fun _ => iI 0))), (x5, .inl (cI, 9, .inl (fun _ => iI 0)))] H := hP
  have hD : va_D (fun q : Nat => q = x0 ∨ s.heap.size ≤ q) [(x0, .inr (0, [.ref x1, .ref x2, .int (iI 0), .int (iI 0), .int (iI 0), .null, .null, .null])), (x1, .inl (cI, 60, .inl (fun _ => iI 0))), (x2, .inl (cI, 60, .inl (fun _ => iI 0))), (x5, .inl (cI, 9, .inl (fun _ => iI 0)))] := hD
  refine va_putF (D := D) (ci := 0) (v := .ref x5) (ty := .array .int) (C := RX0) (T := TX0) (N := 8) hx hb hts hin tyX0 tyX0_ok nmX0 hown hK hP hD hS 0 rfl rfl 5 (by decide) (hts (.fieldLink RX0 19 "ShelfMarks" "spreads" "[I") (by decide +kernel)) (fun _ h9 => h9) rfl hin2 rfl (by decide +kernel) rfl rfl (Nat.le_of_ble_eq_true rfl) dX0_init_27 (fun H locs hP hD hS => ?_)
  have hP : va_P D vwCl [(x0, .inr (0, [.ref x1, .ref x2, .int (iI 0), .int (iI 0), .int (iI 0), .ref x5, .null, .null])), (x1, .inl (cI, 60, .inl (fun _ => iI 0))), (x2, .inl (cI, 60, .inl (fun _ => iI 0))), (x5, .inl (cI, 9, .inl (fun _ => iI 0)))] H := hP
  have hD : va_D (fun q : Nat => q = x0 ∨ s.heap.size ≤ q) [(x0, .inr (0, [.ref x1, .ref x2, .int (iI 0), .int (iI 0), .int (iI 0), .ref x5, .null, .null])), (x1, .inl (cI, 60, .inl (fun _ => iI 0))), (x2, .inl (cI, 60, .inl (fun _ => iI 0))), (x5, .inl (cI, 9, .inl (fun _ => iI 0)))] := hD
  refine lv_aload_n hx hb dX0_init_30 rfl (lv_at hl 0 rfl) ?_
  refine pv_iconst hx hb dX0_init_31 ?_
  refine pv_newa (ty := .int) (atype := .int) (N2 := 4) (a0 := (4, .inl (fun _ => iI 0))) hx hb (hts (.arrayClass .int) (by decide +kernel)) rfl hK 0 rfl (fun _ _ h => h) hP hD hS hA (fun cA => by rw [iI_0]; rfl) (by omega) rfl (Nat.le_of_ble_eq_true rfl) (Nat.le_of_ble_eq_true rfl) (Nat.le_of_ble_eq_true rfl) dX0_init_32 (fun x6 H hP hD hS => ?_)
  have hP : va_P D vwCl [(x0, .inr (0, [.ref x1, .ref x2, .int (iI 0), .int (iI 0), .int (iI 0), .ref x5, .null, .null])), (x1, .inl (cI, 60, .inl (fun _ => iI 0))), (x2, .inl (cI, 60, .inl (fun _ => iI 0))), (x5, .inl (cI, 9, .inl (fun _ => iI 0))), (x6, .inl (cI, 4, .inl (fun _ => iI 0)))] H := hP
  have hD : va_D (fun q : Nat => q = x0 ∨ s.heap.size ≤ q) [(x0, .inr (0, [.ref x1, .ref x2, .int (iI 0), .int (iI 0), .int (iI 0), .ref x5, .null, .null])), (x1, .inl (cI, 60, .inl (fun _ => iI 0))), (x2, .inl (cI, 60, .inl (fun _ => iI 0))), (x5, .inl (cI, 9, .inl (fun _ => iI 0))), (x6, .inl (cI, 4, .inl (fun _ => iI 0)))] := hD
  refine va_putF (D := D) (ci := 0) (v := .ref x6) (ty := .array .int) (C := RX0) (T := TX0) (N := 8) hx hb hts hin tyX0 tyX0_ok nmX0 hown hK hP hD hS 0 rfl rfl 6 (by decide) (hts (.fieldLink RX0 22 "ShelfMarks" "readerFolders" "[I") (by decide +kernel)) (fun _ h9 => h9) rfl hin2 rfl (by decide +kernel) rfl rfl (Nat.le_of_ble_eq_true rfl) dX0_init_34 (fun H locs hP hD hS => ?_)
  have hP : va_P D vwCl [(x0, .inr (0, [.ref x1, .ref x2, .int (iI 0), .int (iI 0), .int (iI 0), .ref x5, .ref x6, .null])), (x1, .inl (cI, 60, .inl (fun _ => iI 0))), (x2, .inl (cI, 60, .inl (fun _ => iI 0))), (x5, .inl (cI, 9, .inl (fun _ => iI 0))), (x6, .inl (cI, 4, .inl (fun _ => iI 0)))] H := hP
  have hD : va_D (fun q : Nat => q = x0 ∨ s.heap.size ≤ q) [(x0, .inr (0, [.ref x1, .ref x2, .int (iI 0), .int (iI 0), .int (iI 0), .ref x5, .ref x6, .null])), (x1, .inl (cI, 60, .inl (fun _ => iI 0))), (x2, .inl (cI, 60, .inl (fun _ => iI 0))), (x5, .inl (cI, 9, .inl (fun _ => iI 0))), (x6, .inl (cI, 4, .inl (fun _ => iI 0)))] := hD
  refine lv_aload_n hx hb dX0_init_37 rfl (lv_at hl 0 rfl) ?_
  refine pv_iconst hx hb dX0_init_38 ?_
  refine pv_newa (ty := .int) (atype := .int) (N2 := 4) (a0 := (4, .inl (fun _ => iI 0))) hx hb (hts (.arrayClass .int) (by decide +kernel)) rfl hK 0 rfl (fun _ _ h => h) hP hD hS hA (fun cA => by rw [iI_0]; rfl) (by omega) rfl (Nat.le_of_ble_eq_true rfl) (Nat.le_of_ble_eq_true rfl) (Nat.le_of_ble_eq_true rfl) dX0_init_39 (fun x7 H hP hD hS => ?_)
  have hP : va_P D vwCl [(x0, .inr (0, [.ref x1, .ref x2, .int (iI 0), .int (iI 0), .int (iI 0), .ref x5, .ref x6, .null])), (x1, .inl (cI, 60, .inl (fun _ => iI 0))), (x2, .inl (cI, 60, .inl (fun _ => iI 0))), (x5, .inl (cI, 9, .inl (fun _ => iI 0))), (x6, .inl (cI, 4, .inl (fun _ => iI 0))), (x7, .inl (cI, 4, .inl (fun _ => iI 0)))] H := hP
  have hD : va_D (fun q : Nat => q = x0 ∨ s.heap.size ≤ q) [(x0, .inr (0, [.ref x1, .ref x2, .int (iI 0), .int (iI 0), .int (iI 0), .ref x5, .ref x6, .null])), (x1, .inl (cI, 60, .inl (fun _ => iI 0))), (x2, .inl (cI, 60, .inl (fun _ => iI 0))), (x5, .inl (cI, 9, .inl (fun _ => iI 0))), (x6, .inl (cI, 4, .inl (fun _ => iI 0))), (x7, .inl (cI, 4, .inl (fun _ => iI 0)))] := hD
  refine va_putF (D := D) (ci := 0) (v := .ref x7) (ty := .array .int) (C := RX0) (T := TX0) (N := 8) hx hb hts hin tyX0 tyX0_ok nmX0 hown hK hP hD hS 0 rfl rfl 7 (by decide) (hts (.fieldLink RX0 25 "ShelfMarks" "readerCounts" "[I") (by decide +kernel)) (fun _ h9 => h9) rfl hin2 rfl (by decide +kernel) rfl rfl (Nat.le_of_ble_eq_true rfl) dX0_init_41 (fun H locs hP hD hS => ?_)
  have hP : va_P D vwCl [(x0, .inr (0, [.ref x1, .ref x2, .int (iI 0), .int (iI 0), .int (iI 0), .ref x5, .ref x6, .ref x7])), (x1, .inl (cI, 60, .inl (fun _ => iI 0))), (x2, .inl (cI, 60, .inl (fun _ => iI 0))), (x5, .inl (cI, 9, .inl (fun _ => iI 0))), (x6, .inl (cI, 4, .inl (fun _ => iI 0))), (x7, .inl (cI, 4, .inl (fun _ => iI 0)))] H := hP
  have hD : va_D (fun q : Nat => q = x0 ∨ s.heap.size ≤ q) [(x0, .inr (0, [.ref x1, .ref x2, .int (iI 0), .int (iI 0), .int (iI 0), .ref x5, .ref x6, .ref x7])), (x1, .inl (cI, 60, .inl (fun _ => iI 0))), (x2, .inl (cI, 60, .inl (fun _ => iI 0))), (x5, .inl (cI, 9, .inl (fun _ => iI 0))), (x6, .inl (cI, 4, .inl (fun _ => iI 0))), (x7, .inl (cI, 4, .inl (fun _ => iI 0)))] := hD
  have hAx : ∀ q, mC x0 x1 x2 x5 x6 x7 q → q = x0 ∨ s.heap.size ≤ q := fun q h => by rcases h with rfl | rfl | rfl | rfl | rfl | rfl; exact hD.2 0 _ rfl; exact hD.2 1 _ rfl; exact hD.2 2 _ rfl; exact hD.2 3 _ rfl; exact hD.2 4 _ rfl; exact hD.2 5 _ rfl
  obtain ⟨f, hf⟩ : ∃ z : Nat → Int32, z = (fun _ => iI 0) := ⟨_, rfl⟩
  have hP : va_P D vwCl (W0 cI x0 x1 x2 x5 x6 x7 0 0 0 f f f f f) H := by rw [hf]; exact hP
  have hD : va_D (fun q : Nat => q = x0 ∨ s.heap.size ≤ q) (W0 cI x0 x1 x2 x5 x6 x7 0 0 0 f f f f f) := by rw [hf]; exact hD
  have hA0 : ∀ n, AR f n (fun _ => 0) := fun n k _ _ => by rw [hf]
  have hR : ∃ g sp rf rc : Nat → Int32, g = f ∧ sp = f ∧ rf = f ∧ rc = f := ⟨f, f, f, f, rfl, rfl, rfl, rfl⟩
  obtain ⟨g, sp, rf, rc, eg, es, er, ec⟩ := hR
  have hP : va_P D vwCl (W0 cI x0 x1 x2 x5 x6 x7 0 0 0 f g sp rf rc) H := by rw [eg, es, er, ec]; exact hP
  have hD : va_D (fun q : Nat => q = x0 ∨ s.heap.size ≤ q) (W0 cI x0 x1 x2 x5 x6 x7 0 0 0 f g sp rf rc) := by rw [eg, es, er, ec]; exact hD
  have hAf := hA0 0
  have hAg : AR g 0 (fun _ => 0) := by rw [eg]; exact hA0 0
  have hAsp : AR sp 9 (fun _ => 0) := by rw [es]; exact hA0 9
  have hArf : AR rf 4 (fun _ => 0) := by rw [er]; exact hA0 4
  have hArc : AR rc 4 (fun _ => 0) := by rw [ec]; exact hA0 4
  have q_readerFolders := hts (.fieldLink RX0 22 "ShelfMarks" "readerFolders" "[I") (by decide +kernel)
  refine pv_iconst hx hb dX0_init_44 ?_
  refine lv_istore_n (lv' := [(1, .int (iI (0))), (0, .ref x0)]) hx hb dX0_init_45 rfl hl (by decide) rfl (fun ls hl => ?_)
  have hloop46 : ∀ (fuel : Nat) (k : Int) (R2 : Int → Int) (H : Heap) (locs : List Loc) (ls : Array Slot), (4 - k) < fuel → (0 ≤ k ∧ k ≤ 4) → (∀ j : Int, 0 ≤ j → j < k → R2 j = -1) → CW D cI base x0 x1 x2 x5 x6 x7 (0) (0) (0) (fun _ => 0) (fun _ => 0) (fun _ => 0) (R2) (fun _ => 0) H → va_S (fun q => q = x0 ∨ s.heap.size ≤ q) s.heap H locs → lv_has ls 2 [(0, .ref x0), (1, .int (iI (k)))] → W p l e ({ frames := 1, cells := 5, slots := 137, locals := 20 } : Room) s m ([.ref x0] : List Value).toArray below meth c H locs 5 137 (MQ below (mu_Q none (fun H => ∃ x1 x2 x5 x6 x7 : Nat, CW D cI base x0 x1 x2 x5 x6 x7 0 0 0 (fun _ => 0) (fun _ => 0) (fun _ => 0) (fun _ => -1) (fun _ => 0) H ∧ ∀ q, mC x0 x1 x2 x5 x6 x7 q → q = x0 ∨ s.heap.size ≤ q) (fun q => q = x0 ∨ s.heap.size ≤ q)) ([.ref x0] : List Value).toArray s 5 137 (fun q => q = x0 ∨ s.heap.size ≤ q)) (F0 m 46 ls []) := by
    intro fuel
    induction fuel with
    | zero => intro k R2 H locs ls hfu hk hRa hC9 hS hl; exfalso; omega
    | succ fuel ih =>
      intro k R2 H locs ls hfu hk hRa hC9 hS hl
      obtain ⟨f, g, sp, rf, rc, hAf, hAg, hAsp, hArf, hArc, hP, hDb⟩ := hC9
      have hD : va_D (fun q => q = x0 ∨ s.heap.size ≤ q) (W0 cI x0 x1 x2 x5 x6 x7 (0) (0) (0) f g sp rf rc) := (CW_mD hDb).weaken (fun _ _ _ h => hAx _ h)
      refine lv_iload_n hx hb dX0_init_46 rfl (lv_at hl 1 rfl) ?_
      refine pv_iconst hx hb dX0_init_47 ?_
      refine pv_icmp_ge (tgt := 64) hx hb dX0_init_48 (by decide) (by omega) (fun c_48 => ?_) (fun c_48 => ?_)
      · -- 48t
        exact in_vret hx hb hr hlocks hS dX0_init_64 ⟨x1, x2, x5, x6, x7, ⟨f, g, sp, rf, rc, hAf, hAg, hAsp, AR_to hArf (Int.le_refl _) (fun j h0 h1 => hRa j h0 (by omega)), hArc, hP, hD.weaken (fun _ _ _ h => hmb _ h)⟩, hAx⟩
      · -- 48f
        refine lv_aload_n hx hb dX0_init_51 rfl (lv_at hl 0 rfl) ?_
        refine va_get (D := D) (ci := 0) (v := .ref x6) (C := RX0) (T := TX0) (N := 8) hx hb hts hin hown hK hP 0 rfl rfl 6 (by decide) q_readerFolders (fun _ h9 => h9) rfl dX0_init_52 ?_
        refine lv_iload_n hx hb dX0_init_55 rfl (lv_at hl 1 rfl) ?_
        refine pv_iconst hx hb dX0_init_56 ?_
        refine pv_iast (i := k) (v := (-1)) hx hb hK hP hD hS 4 0 rfl rfl (by omega) (by decide) dX0_init_57 (fun H locs hP hD hS => ?_)
        have hP : va_P D vwCl (W0 cI x0 x1 x2 x5 x6 x7 (0) (0) (0) f g sp (upd rf (k).toNat (iI ((-1)))) rc) H := hP
        have hD : va_D (fun q => q = x0 ∨ s.heap.size ≤ q) (W0 cI x0 x1 x2 x5 x6 x7 (0) (0) (0) f g sp (upd rf (k).toNat (iI ((-1)))) rc) := hD
        have hArf := AR_up (k := k) (v := (-1)) hArf (by omega)
        generalize upd rf (k).toNat (iI ((-1))) = rf at hP hD hArf
        refine pv_iinc (lv' := [(1, .int (iI (k + 1))), (0, .ref x0)]) hx hb dX0_init_58 hl (k := 1) rfl (by decide) rfl (fun ls hl => ?_)
        refine lv_goto (tgt := 46) hx hb dX0_init_61 (by decide) ?_
        exact ih (k + 1) (_) _ _ ls (by omega) (by omega) (fun j h0 h1 => by unfold uI; split; rfl; exact hRa j h0 (by omega)) ⟨f, g, sp, rf, rc, hAf, hAg, hAsp, hArf, hArc, hP, hD.weaken (fun _ _ _ h => hmb _ h)⟩ hS (lv_sub hl [1, 0] rfl)
  exact hloop46 ((4 : Int).toNat + 1) (0) (fun _ => 0) _ _ ls (by omega) (by omega) (fun j h0 h1 => absurd h1 (by omega)) ⟨f, g, sp, rf, rc, hAf, hAg, hAsp, hArf, hArc, hP, hD.weaken (fun _ _ _ h => hmb _ h)⟩ hS (lv_sub hl [1, 0] rfl)
end
section
/-! THE CLAIM OUT OF ONE WALK OF THE LAW'S BODY. Your part is whole_start (and what it stands on); all else here is the same for every law, but numbers. -/
def R_law : String := "ShelfMarksLaw"
def lw_P (b : Addr) (xs : List Int32) (args : Array Value) (s : State) : Prop := args = #[.ref b] ∧ s.IntsAt b xs ∧ xs.length ≤ 260 ∧ (Jvm.Cond.and given_1 narrow_1).before args s = true
def lw_Q (_ : Array Value) (s : State) (o : Outcome) (t : State) : Prop := o = .returned (some (.int 1)) ∧ Framed s o t [] 649267 7153381
def lw_Z (below : List Frame) (a : Array Value) (s : State) : State → Prop := fun t => ∃ o, t.status = .running ∧ Ended t below o ∧ lw_Q a s o t
/-- the law's own end, with 1 on the stack, nothing written that was there before, its room as the claim has it -/
theorem lw_ret {p : Program} {l : Launch} {e : Env} {s : State} {m : MethodId} {below : List Frame} {meth : Method} {c : Code} {b : Nat} (hx : p.tables.exec = Jvm.exec) (hb : c.code = code) (hr : meth.sig.returnType = ret) (hlocks : meth.locks = false) {pc : Nat} {H : Heap} {ls : Array Slot} (hdg : decode code pc = .ok (.ireturn, 1)) : W p l e room_1 s m #[Value.ref b] below meth c H [] 649267 7153381 (lw_Z below #[Value.ref b] s) (F0 m pc ls [.int 1]) := by
  intro T hT X
  obtain ⟨fs, hret, hrun, hended, hW, hframe⟩ := X.leave (v := some (.int 1)) (hlocks := hlocks) (fun h => by rw [hr] at h; cases h)
  have hmeth' : T.vm.method? m = some meth := X.method'
  refine ⟨T.setFrames fs, ?_, .returned (some (.int 1)), hrun, hended, rfl, ⟨_, rfl⟩, hW, hframe⟩
  jvm_step X.here [X.here.top, hx, hb, hdg, hmeth', hr, ret, narrow_b1]
  (try refine ⟨rfl, ?_⟩); (try refine ⟨rfl, ?_⟩)
  first | (intro acts; rw [hret _ acts rfl rfl rfl]) | rw [hret _ _ rfl rfl rfl]
  exact Steps.refl _
/-- what holds at the law's entry: the machine, the code, the tables' words (any of lw_tbl by 'hts w (by decide +kernel)'), the script of L ints xs at the cell b, what the Statement gives of the start (any of its parts by flat_of_before) -/
def lw_At (p : Program) (s : State) (m : MethodId) (meth : Method) (c : Code) (b L : Nat) (xs : Nat → Int32) : Prop :=
  p.tables.exec = Jvm.exec ∧ c.code = code ∧ meth.sig.returnType = ret ∧ c.maxLocals = 7 ∧ s.vm.findClass R_law = some m.cls ∧ (∀ w ∈ lw_tbl, w.before #[Value.ref b] s = true) ∧ va_X b L xs s s.heap ∧ b < s.heap.size ∧ meth.locks = false ∧ (Jvm.Cond.and given_1 narrow_1).before #[Value.ref b] s = true
end
section
/-! the law's helpers without handlers -/
theorem fa_in {F : Int → Int} {n v : Int} (h : 0 ≤ v ∧ v < n) : fa F n v = F v := by unfold fa; rw [if_pos h]
theorem fa_out {F : Int → Int} {n v : Int} (h : ¬ (0 ≤ v ∧ v < n)) : fa F n v = -1 := by unfold fa; rw [if_neg h]
/-- the script's number at a place, as the law draws it -/
def dr (xs : Nat → Int32) (L : Nat) (k : Int) : Int32 := if k < L then xs k.toNat else iI (51001 * k + 8081)
def XP (b L : Nat) (xs : Nat → Int32) : State → Heap → Prop := fun U H => va_X b L xs U H
theorem XP_mv {b L : Nat} {xs : Nat → Int32} : mvb (XP b L xs) := fun _ _ _ hW h => va_X.moved hW.alike h
set_option maxHeartbeats 4000000 in
set_option maxRecDepth 100000 in
theorem l_drawn (l : Launch) (b L : Nat) (xs : Nat → Int32) (hL : L ≤ 260) (k : Int) (hk : 0 ≤ k ∧ k ≤ 60) (v : Int) (hv : dr xs L k &&& 2147483647 = iI v) : pu_M l yL_drawn wsL_drawn ({ frames := 0, cells := 0, slots := 0, locals := 0 } : Room) [.ref b, .int (iI (k))] (XP b L xs) v := by
  refine pu_of (cc := cL_drawn) (maxL := 3) (ret := (some .int)) (own := RL) (by decide) rfl rfl (Nat.le_of_ble_eq_true rfl) ?_
  intro p e s m below meth c ls B hP0 hl
  obtain ⟨hx, hb, hml, hr, hts, hown, hlocks⟩ := B
  have hl : lv_has ls 3 [(0, .ref b), (1, .int (iI (k)))] := hl
  refine lv_iload_n hx hb dL_drawn_0 rfl (lv_at hl 1 rfl) ?_
  refine lv_aload_n hx hb dL_drawn_1 rfl (lv_at hl 0 rfl) ?_
  have hbl : b < s.heap.size := by obtain ⟨scr, h1, -⟩ := hP0; exact (Array.getElem?_eq_some_iff.mp h1).1
  refine va_slen (A := fun _ => False) (H0 := s.heap) hx hb hP0 hbl (fun h => h) va_S.rf dL_drawn_2 ?_
  rw [show Int32.ofNat L = iI (L : Int) from (iI_nI L).symm]
  obtain ⟨u, hur, hu⟩ := iI_of (dr xs L k)
  rw [hu] at hv
  have tail : ∀ ls : Array Slot, lv_has ls 3 [(0, .ref b), (1, .int (iI k))] → W p l e ({ frames := 0, cells := 0, slots := 0, locals := 0 } : Room) s m ([.ref b, .int (iI (k))] : List Value).toArray below meth c s.heap [] 0 0 (MQ below (pu_Q v) ([.ref b, .int (iI (k))] : List Value).toArray s 0 0 (fun _ => False)) (F0 m 20 ls [.int (iI u)]) := by
    intro ls hl
    refine lv_istore_n (lv' := [(2, .int (iI (u))), (0, .ref b), (1, .int (iI (k)))]) hx hb dL_drawn_20 rfl hl (by decide) rfl (fun ls hl => ?_)
    refine lv_iload_n hx hb dL_drawn_21 rfl (lv_at hl 0 rfl) ?_
    refine lv_ldc (v := 2147483647) hx hb hown (hts (.constant RL 8 (2147483647)) (by decide +kernel)) dL_drawn_22 ?_
    refine lv_iand hx hb dL_drawn_24 ?_
    rw [hv]
    exact pu_iret hx hb hr hlocks dL_drawn_25 rfl
  by_cases hkL : k < (L : Int)
  · have hu2 : xs k.toNat = iI u := by rw [← hu]; unfold dr; rw [if_pos hkL]
    refine pv_icmp_ge (tgt := 12) hx hb dL_drawn_3 (by decide) (by omega) (fun c9 => False.elim (by omega)) (fun _ => ?_)
    refine lv_aload_n hx hb dL_drawn_6 rfl (lv_at hl 0 rfl) ?_
    refine lv_iload_n hx hb dL_drawn_7 rfl (lv_at hl 1 rfl) ?_
    refine va_sld (A := fun _ => False) (H0 := s.heap) hx hb hP0 hbl (fun h => h) va_S.rf (iI_in (n := L) (by omega) (by omega)) dL_drawn_8 ?_
    rw [iI_N (by omega), hu2]
    refine lv_goto (tgt := 20) hx hb dL_drawn_9 (by decide) ?_
    exact tail ls hl
  · have hu2 : iI (51001 * k + 8081) = iI u := by rw [← hu]; unfold dr; rw [if_neg hkL]
    refine pv_icmp_ge (tgt := 12) hx hb dL_drawn_3 (by decide) (by omega) (fun _ => ?_) (fun c9 => False.elim (by omega))
    refine lv_ldc (v := 51001) hx hb hown (hts (.constant RL 7 (51001)) (by decide +kernel)) dL_drawn_12 ?_
    rw [show (51001 : Int32) = iI 51001 by decide +kernel]
    refine lv_iload_n hx hb dL_drawn_14 rfl (lv_at hl 1 rfl) ?_
    refine pv_imul hx hb dL_drawn_15 ?_
    refine pv_sipush hx hb dL_drawn_16 (by decide +kernel) ?_
    refine pv_iadd hx hb dL_drawn_19 ?_
    rw [hu2]
    exact tail ls hl
set_option maxHeartbeats 4000000 in
set_option maxRecDepth 100000 in
theorem f_at (l : Launch) (D : va_G) (cI : ClassId) (base st : Nat) (Z : Nat → Nat) (x0 x1 x2 x5 x6 x7 : Nat) {n came MV : Int} {F G SP RF RC : Int → Int} (hI : INV n came F G RF) (v : Int) (hv : 0 ≤ v ∧ v < n) : pu_M l yL_folderAt wsL_folderAt ({ frames := 4, cells := 0, slots := 0, locals := 88 } : Room) [.ref x0, .int (iI (v))] (CP D cI base st Z x0 x1 x2 x5 x6 x7 n came MV F G SP RF RC) (F v) := by
  refine pu_of (cc := cL_folderAt) (maxL := 4) (ret := (some .int)) (own := RL) (by decide) rfl rfl (Nat.le_of_ble_eq_true rfl) ?_
  intro p e s m below meth c ls B hP0 hl
  obtain ⟨hx, hb, hml, hr, hts, hown, hlocks⟩ := B
  have hl : lv_has ls 4 [(0, .ref x0), (1, .int (iI (v)))] := hl
  obtain ⟨hn, hcm, hF, hfc, hFi, hG, hs, hRI0⟩ := id hI
  refine lv_aload_n hx hb dL_folderAt_0 rfl (lv_at hl 0 rfl) ?_
  refine pu_callV (v := fa F n 0) (As := []) (rest := []) CP_mv ⟨hx, hb, hml, hown, hts⟩ (c_first l D cI base st Z x0 x1 x2 x5 x6 x7 hn _ rfl) (cwV 0 hts gL_folderAt_X0_first rfl rfl rfl (by decide +kernel) ⟨(Nat.le_of_ble_eq_true rfl), (Nat.le_of_ble_eq_true rfl)⟩) hP0 (CP_rc hP0) rfl rfl hl.1 (Nat.le_of_ble_eq_true rfl) dL_folderAt_1 ⟨Nat.zero_le _, Nat.zero_le _⟩ ?_
  rw [show iI (fa F n 0) = iI (F 0) from congrArg iI (fa_in (by omega))]
  refine lv_istore_n (lv' := [(2, .int (iI (F 0))), (0, .ref x0), (1, .int (iI (v)))]) hx hb dL_folderAt_4 rfl hl (by decide) rfl (fun ls hl => ?_)
  refine pv_iconst hx hb dL_folderAt_5 ?_
  refine lv_istore_n (lv' := [(3, .int (iI (0))), (2, .int (iI (F 0))), (0, .ref x0), (1, .int (iI (v)))]) hx hb dL_folderAt_6 rfl hl (by decide) rfl (fun ls hl => ?_)
  have hloop : ∀ (fuel : Nat) (k : Int) (ls : Array Slot), v - k < fuel → 0 ≤ k ∧ k ≤ v → lv_has ls 4 [(3, .int (iI k)), (2, .int (iI (F k))), (0, .ref x0), (1, .int (iI v))] → W p l e ({ frames := 4, cells := 0, slots := 0, locals := 88 } : Room) s m ([.ref x0, .int (iI (v))] : List Value).toArray below meth c s.heap [] 0 0 (MQ below (pu_Q (F v)) ([.ref x0, .int (iI (v))] : List Value).toArray s 0 0 (fun _ => False)) (F0 m 7 ls []) := by
    intro fuel
    induction fuel with
    | zero => intro k ls h1 h2; exfalso; omega
    | succ fuel ih =>
      intro k ls h1 h2 hl
      by_cases hk : k < v
      · have hFk := hF k (by omega) (by omega)
        refine lv_iload_n hx hb dL_folderAt_7 rfl (lv_at hl 0 rfl) ?_
        refine lv_iload_n hx hb dL_folderAt_8 rfl (lv_at hl 3 rfl) ?_
        refine pv_icmp_ge (tgt := 30) hx hb dL_folderAt_9 (by decide) (by omega) (fun c9 => False.elim (by omega)) (fun _ => ?_)
        refine lv_iload_n hx hb dL_folderAt_12 rfl (lv_at hl 1 rfl) ?_
        refine pv_iconst hx hb dL_folderAt_13 ?_
        refine pv_icmp_eq (tgt := 30) hx hb dL_folderAt_14 (by decide) (by omega) (fun c9 => False.elim (by omega)) (fun _ => ?_)
        refine lv_aload_n hx hb dL_folderAt_17 rfl (lv_at hl 2 rfl) ?_
        refine pv_iconst hx hb dL_folderAt_18 ?_
        refine lv_iload_n hx hb dL_folderAt_19 rfl (lv_at hl 1 rfl) ?_
        refine ar_call (v := F (k + 1)) (As := [.ref x0, .int (iI (0)), .int (iI (F k))]) (rest := []) CP_mv ⟨hx, hb, hml, hown, hts⟩ (q_next l D cI base st Z x0 x1 x2 x5 x6 x7 hn hF (F k) (by omega) k (PL_k hI (by omega)) (by omega) (F (k + 1)) (fa_in (by omega)).symm) (vx_cwSW 3 hts gL_folderAt_L_asked rfl rfl rfl (by decide +kernel) ⟨(Nat.le_of_ble_eq_true rfl), (Nat.le_of_ble_eq_true rfl)⟩) hP0 rfl rfl hl.1 (Nat.le_of_ble_eq_true rfl) dL_folderAt_20 ⟨Nat.zero_le _, Nat.zero_le _⟩ ?_
        refine lv_istore_n (lv' := [(2, .int (iI (F (k + 1)))), (3, .int (iI (k))), (0, .ref x0), (1, .int (iI (v)))]) hx hb dL_folderAt_23 rfl hl (by decide) rfl (fun ls hl => ?_)
        refine pv_iinc (lv' := [(3, .int (iI (k + 1))), (2, .int (iI (F (k + 1)))), (0, .ref x0), (1, .int (iI (v)))]) hx hb dL_folderAt_24 hl (k := 1) rfl (by decide) rfl (fun ls hl => ?_)
        refine lv_goto (tgt := 7) hx hb dL_folderAt_27 (by decide) ?_
        exact ih (k + 1) ls (by omega) (by omega) (lv_sub hl [0, 1, 2, 3] rfl)
      · skip
        refine lv_iload_n hx hb dL_folderAt_7 rfl (lv_at hl 0 rfl) ?_
        refine lv_iload_n hx hb dL_folderAt_8 rfl (lv_at hl 3 rfl) ?_
        refine pv_icmp_ge (tgt := 30) hx hb dL_folderAt_9 (by decide) (by omega) (fun _ => ?_) (fun c9 => False.elim (by omega))
        refine lv_iload_n hx hb dL_folderAt_30 rfl (lv_at hl 1 rfl) ?_
        exact pu_iret hx hb hr hlocks dL_folderAt_31 (by rw [show k = v by omega])
  exact hloop (v.toNat + 1) 0 ls (by omega) (by omega) (lv_sub hl [0, 1, 2, 3] rfl)
def DJ (base x0 x1 x2 x5 x6 x7 z0 z1 z2 z5 z6 z7 pp : Nat) : Prop := (∀ q, mC x0 x1 x2 x5 x6 x7 q → ¬ mC z0 z1 z2 z5 z6 z7 q) ∧ ¬ mC x0 x1 x2 x5 x6 x7 pp ∧ ¬ mC z0 z1 z2 z5 z6 z7 pp ∧ base ≤ pp
/-- two archives whose folders are partners, in one heap, and the row of partners -/
def RW (D : va_G) (cI : ClassId) (base x0 x1 x2 x5 x6 x7 z0 z1 z2 z5 z6 z7 pp : Nat) (k1 k2 : Int) (H : Heap) : Prop := ∃ (n c1 M1 : Int) (F G SP RF RC : Int → Int) (c2 M2 : Int) (F2 G2 SP2 RF2 RC2 PN : Int → Int), CW D cI base x0 x1 x2 x5 x6 x7 n c1 M1 F G SP RF RC H ∧ CW D cI base z0 z1 z2 z5 z6 z7 n c2 M2 F2 G2 SP2 RF2 RC2 H ∧ OP D cI pp PN H ∧ INV n c1 F G RF ∧ INV n c2 F2 G2 RF2 ∧ REL n F F2 RF RF2 RC RC2 PN ∧ n ≤ c1 ∧ c1 ≤ k1 ∧ c2 ≤ k2
def LPW (D : va_G) (cI : ClassId) (base st : Nat) (Z : Nat → Nat) (x0 x1 x2 x5 x6 x7 z0 z1 z2 z5 z6 z7 pp : Nat) (k1 k2 : Int) : State → Heap → Prop := fun U H => SW D cI base st Z U H ∧ RW D cI base x0 x1 x2 x5 x6 x7 z0 z1 z2 z5 z6 z7 pp k1 k2 H ∧ DJ base x0 x1 x2 x5 x6 x7 z0 z1 z2 z5 z6 z7 pp ∧ va_Nc "java/lang/IllegalArgumentException" "java/lang/IllegalStateException" U ∧ va_Nc "java/lang/IllegalArgumentException" "java/lang/IndexOutOfBoundsException" U
theorem LPW_mv {D : va_G} {cI : ClassId} {base st : Nat} {Z : Nat → Nat} {x0 x1 x2 x5 x6 x7 z0 z1 z2 z5 z6 z7 pp : Nat} {k1 k2 : Int} : mvb (LPW D cI base st Z x0 x1 x2 x5 x6 x7 z0 z1 z2 z5 z6 z7 pp k1 k2) := fun _ _ _ hW h => ⟨h.1.move hW, h.2.1, h.2.2.1, va_Nc.moved hW.alike h.2.2.2.1, va_Nc.moved hW.alike h.2.2.2.2⟩
set_option maxHeartbeats 4000000 in
set_option maxRecDepth 100000 in
theorem a_like (l : Launch) (D : va_G) (cI : ClassId) (base st : Nat) (Z : Nat → Nat) (x0 x1 x2 x5 x6 x7 z0 z1 z2 z5 z6 z7 pp : Nat) (k1 k2 : Int) (hk60 : k1 ≤ 60) : pu_M l yL_areAlike wsL_areAlike ({ frames := 4, cells := 0, slots := 0, locals := 88 } : Room) [.ref x0, .ref z0, .ref pp] (LPW D cI base st Z x0 x1 x2 x5 x6 x7 z0 z1 z2 z5 z6 z7 pp k1 k2) 1 := by
  refine pu_of (cc := cL_areAlike) (maxL := 10) (ret := (some .boolean)) (own := RL) (by decide) rfl rfl (Nat.le_of_ble_eq_true rfl) ?_
  intro p e s m below meth c ls B hP0 hl
  obtain ⟨hx, hb, hml, hr, hts, hown, hlocks⟩ := B
  have hl : lv_has ls 10 [(0, .ref x0), (1, .ref z0), (2, .ref pp)] := hl
  obtain ⟨hSW, ⟨n, c1, M1, F, G, SP, RF, RC, c2, M2, F2, G2, SP2, RF2, RC2, PN, hC, hC2, hO, hI, hJ, hR, hn1, hk1, hk2⟩, hDJ, hnc1, hnc2⟩ := hP0
  have hK := hSW.1
  obtain ⟨hn, hcm, hF, hfc, hFi, hG, hs, hRI⟩ := id hI
  obtain ⟨_, hcm2, hF2, hfc2, hFi2, hG2, hs2, hRI2⟩ := id hJ
  refine lv_aload_n hx hb dL_areAlike_0 rfl (lv_at hl 0 rfl) ?_
  refine pu_callV (v := fa F n 0) (As := []) (rest := []) CP_mv ⟨hx, hb, hml, hown, hts⟩ (c_first l D cI base st Z x0 x1 x2 x5 x6 x7 hn _ rfl) (cwV 0 hts gL_areAlike_X0_first rfl rfl rfl (by decide +kernel) ⟨(Nat.le_of_ble_eq_true rfl), (Nat.le_of_ble_eq_true rfl)⟩) ⟨hSW, hC⟩ (CP_rc ⟨hSW, hC⟩) rfl rfl hl.1 (Nat.le_of_ble_eq_true rfl) dL_areAlike_1 ⟨Nat.zero_le _, Nat.zero_le _⟩ ?_
  refine lv_istore_n (lv' := [(3, .int (iI (fa F n 0))), (0, .ref x0), (1, .ref z0), (2, .ref pp)]) hx hb dL_areAlike_4 rfl hl (by decide) rfl (fun ls hl => ?_)
  refine lv_aload_n hx hb dL_areAlike_5 rfl (lv_at hl 2 rfl) ?_
  refine pu_callV (v := fa F2 n 0) (As := []) (rest := []) CP_mv ⟨hx, hb, hml, hown, hts⟩ (c_first l D cI base st Z z0 z1 z2 z5 z6 z7 hn _ rfl) (cwV 0 hts gL_areAlike_X0_first rfl rfl rfl (by decide +kernel) ⟨(Nat.le_of_ble_eq_true rfl), (Nat.le_of_ble_eq_true rfl)⟩) ⟨hSW, hC2⟩ (CP_rc ⟨hSW, hC2⟩) rfl rfl hl.1 (Nat.le_of_ble_eq_true rfl) dL_areAlike_6 ⟨Nat.zero_le _, Nat.zero_le _⟩ ?_
  refine lv_istore (lv' := [(4, .int (iI (fa F2 n 0))), (3, .int (iI (fa F n 0))), (0, .ref x0), (1, .ref z0), (2, .ref pp)]) hx hb dL_areAlike_9 hl (by decide) rfl (fun ls hl => ?_)
  refine pv_iconst hx hb dL_areAlike_11 ?_
  refine lv_istore (lv' := [(5, .int (iI (0))), (4, .int (iI (fa F2 n 0))), (3, .int (iI (fa F n 0))), (0, .ref x0), (1, .ref z0), (2, .ref pp)]) hx hb dL_areAlike_12 hl (by decide) rfl (fun ls hl => ?_)
  refine pv_iconst hx hb dL_areAlike_14 ?_
  refine lv_istore (lv' := [(6, .int (iI (-1))), (5, .int (iI (0))), (4, .int (iI (fa F2 n 0))), (3, .int (iI (fa F n 0))), (0, .ref x0), (1, .ref z0), (2, .ref pp)]) hx hb dL_areAlike_15 hl (by decide) rfl (fun ls hl => ?_)
  refine lv_aload_n hx hb dL_areAlike_17 rfl (lv_at hl 4 rfl) ?_
  refine pu_callV (v := n) (As := []) (rest := []) CP_mv ⟨hx, hb, hml, hown, hts⟩ (c_size l D cI base st Z x0 x1 x2 x5 x6 x7 hn) (cwV 0 hts gL_areAlike_X0_size rfl rfl rfl (by decide +kernel) ⟨(Nat.le_of_ble_eq_true rfl), (Nat.le_of_ble_eq_true rfl)⟩) ⟨hSW, hC⟩ (CP_rc ⟨hSW, hC⟩) rfl rfl hl.1 (Nat.le_of_ble_eq_true rfl) dL_areAlike_18 ⟨Nat.zero_le _, Nat.zero_le _⟩ ?_
  refine lv_aload_n hx hb dL_areAlike_21 rfl (lv_at hl 5 rfl) ?_
  refine pu_callV (v := n) (As := []) (rest := [.int (iI (n))]) CP_mv ⟨hx, hb, hml, hown, hts⟩ (c_size l D cI base st Z z0 z1 z2 z5 z6 z7 hn) (cwV 0 hts gL_areAlike_X0_size rfl rfl rfl (by decide +kernel) ⟨(Nat.le_of_ble_eq_true rfl), (Nat.le_of_ble_eq_true rfl)⟩) ⟨hSW, hC2⟩ (CP_rc ⟨hSW, hC2⟩) rfl rfl hl.1 (Nat.le_of_ble_eq_true rfl) dL_areAlike_22 ⟨Nat.zero_le _, Nat.zero_le _⟩ ?_
  refine pv_nesame (tgt := 32) hx hb dL_areAlike_25 (by decide) (rfl) ?_
  refine pv_iconst hx hb dL_areAlike_28 ?_
  refine lv_goto (tgt := 33) hx hb dL_areAlike_29 (by decide) ?_
  refine lv_istore (lv' := [(7, .int (iI (1))), (6, .int (iI (-1))), (5, .int (iI (0))), (4, .int (iI (fa F2 n 0))), (3, .int (iI (fa F n 0))), (0, .ref x0), (1, .ref z0), (2, .ref pp)]) hx hb dL_areAlike_33 hl (by decide) rfl (fun ls hl => ?_)
  obtain ⟨pf, hAp, hGP⟩ := hO
  have hrd : ∀ (fuel : Nat) (r : Int) (ls : Array Slot), 4 - r < fuel → 0 ≤ r ∧ r ≤ 4 → lv_has ls 10 [(8, .int (iI r)), (7, .int (iI 1)), (0, .ref x0), (1, .ref z0), (2, .ref pp)] → W p l e ({ frames := 4, cells := 0, slots := 0, locals := 88 } : Room) s m ([.ref x0, .ref z0, .ref pp] : List Value).toArray below meth c s.heap [] 0 0 (MQ below (pu_Q 1) ([.ref x0, .ref z0, .ref pp] : List Value).toArray s 0 0 (fun _ => False)) (F0 m 167 ls []) := by
    intro fuel
    induction fuel with
    | zero => intro r ls h1 h2; exfalso; omega
    | succ fuel ih =>
      intro r ls h1 h2 hl
      by_cases hr4 : r < 4
      · have hra := INV_RF hI r (by omega) (by omega)
        have hrb := INV_RF hJ r (by omega) (by omega)
        have hrr := hR.2.1 r (by omega) (by omega)
        refine lv_iload hx hb dL_areAlike_167 (lv_at hl 0 rfl) ?_
        refine pv_iconst hx hb dL_areAlike_169 ?_
        refine pv_icmp_ge (tgt := 241) hx hb dL_areAlike_170 (by decide) (by omega) (fun c9 => False.elim (by omega)) (fun _ => ?_)
        refine lv_iload hx hb dL_areAlike_173 (lv_at hl 1 rfl) ?_
        refine pv_if_eq (tgt := 241) hx hb dL_areAlike_175 (by decide) (by omega) (fun c9 => False.elim (by omega)) (fun _ => ?_)
        refine lv_aload_n hx hb dL_areAlike_178 rfl (lv_at hl 2 rfl) ?_
        refine pv_iconst hx hb dL_areAlike_179 ?_
        refine lv_iload hx hb dL_areAlike_180 (lv_at hl 0 rfl) ?_
        refine ar_call (v := RF r) (As := [.ref x0, .int (iI (3)), .int (iI (r))]) (rest := []) CP_mv ⟨hx, hb, hml, hown, hts⟩ (q_at l D cI base st Z x0 x1 x2 x5 x6 x7 r (by omega)) (vx_cwSW 3 hts gL_areAlike_L_asked rfl rfl rfl (by decide +kernel) ⟨(Nat.le_of_ble_eq_true rfl), (Nat.le_of_ble_eq_true rfl)⟩) ⟨hSW, hC⟩ rfl rfl hl.1 (Nat.le_of_ble_eq_true rfl) dL_areAlike_182 ⟨Nat.zero_le _, Nat.zero_le _⟩ ?_
        refine lv_istore (lv' := [(9, .int (iI (RF r))), (8, .int (iI (r))), (7, .int (iI (1))), (0, .ref x0), (1, .ref z0), (2, .ref pp)]) hx hb dL_areAlike_185 hl (by decide) rfl (fun ls hl => ?_)
        refine lv_aload_n hx hb dL_areAlike_187 rfl (lv_at hl 4 rfl) ?_
        refine pv_iconst hx hb dL_areAlike_188 ?_
        refine lv_iload hx hb dL_areAlike_189 (lv_at hl 1 rfl) ?_
        refine ar_call (v := RF2 r) (As := [.ref z0, .int (iI (3)), .int (iI (r))]) (rest := []) CP_mv ⟨hx, hb, hml, hown, hts⟩ (q_at l D cI base st Z z0 z1 z2 z5 z6 z7 r (by omega)) (vx_cwSW 3 hts gL_areAlike_L_asked rfl rfl rfl (by decide +kernel) ⟨(Nat.le_of_ble_eq_true rfl), (Nat.le_of_ble_eq_true rfl)⟩) ⟨hSW, hC2⟩ rfl rfl hl.1 (Nat.le_of_ble_eq_true rfl) dL_areAlike_191 ⟨Nat.zero_le _, Nat.zero_le _⟩ ?_
        refine lv_iload hx hb dL_areAlike_194 (lv_at hl 0 rfl) ?_
        refine pv_iconst hx hb dL_areAlike_196 ?_
        have hjoin : ∀ ls : Array Slot, lv_has ls 10 [(9, .int (iI (RF r))), (8, .int (iI r)), (7, .int (iI 1)), (0, .ref x0), (1, .ref z0), (2, .ref pp)] → W p l e ({ frames := 4, cells := 0, slots := 0, locals := 88 } : Room) s m ([.ref x0, .ref z0, .ref pp] : List Value).toArray below meth c s.heap [] 0 0 (MQ below (pu_Q 1) ([.ref x0, .ref z0, .ref pp] : List Value).toArray s 0 0 (fun _ => False)) (F0 m 208 ls [.int (iI (RF2 r)), .int (iI (RF2 r))]) := by
          intro ls hl
          refine pv_nesame (tgt := 232) hx hb dL_areAlike_208 (by decide) (rfl) ?_
          refine lv_aload_n hx hb dL_areAlike_211 rfl (lv_at hl 3 rfl) ?_
          refine pv_iconst hx hb dL_areAlike_212 ?_
          refine lv_iload hx hb dL_areAlike_213 (lv_at hl 1 rfl) ?_
          refine ar_call (v := RC r) (As := [.ref x0, .int (iI (4)), .int (iI (r))]) (rest := []) CP_mv ⟨hx, hb, hml, hown, hts⟩ (q_read l D cI base st Z x0 x1 x2 x5 x6 x7 r (by omega)) (vx_cwSW 3 hts gL_areAlike_L_asked rfl rfl rfl (by decide +kernel) ⟨(Nat.le_of_ble_eq_true rfl), (Nat.le_of_ble_eq_true rfl)⟩) ⟨hSW, hC⟩ rfl rfl hl.1 (Nat.le_of_ble_eq_true rfl) dL_areAlike_215 ⟨Nat.zero_le _, Nat.zero_le _⟩ ?_
          refine lv_aload_n hx hb dL_areAlike_218 rfl (lv_at hl 4 rfl) ?_
          refine pv_iconst hx hb dL_areAlike_219 ?_
          refine lv_iload hx hb dL_areAlike_220 (lv_at hl 1 rfl) ?_
          refine ar_call (v := RC2 r) (As := [.ref z0, .int (iI (4)), .int (iI (r))]) (rest := [.int (iI (RC r))]) CP_mv ⟨hx, hb, hml, hown, hts⟩ (q_read l D cI base st Z z0 z1 z2 z5 z6 z7 r (by omega)) (vx_cwSW 3 hts gL_areAlike_L_asked rfl rfl rfl (by decide +kernel) ⟨(Nat.le_of_ble_eq_true rfl), (Nat.le_of_ble_eq_true rfl)⟩) ⟨hSW, hC2⟩ rfl rfl hl.1 (Nat.le_of_ble_eq_true rfl) dL_areAlike_222 ⟨Nat.zero_le _, Nat.zero_le _⟩ ?_
          refine pv_nesame (tgt := 232) hx hb dL_areAlike_225 (by decide) ((hR.2.2 r (by omega) (by omega)).symm) ?_
          refine pv_iconst hx hb dL_areAlike_228 ?_
          refine lv_goto (tgt := 233) hx hb dL_areAlike_229 (by decide) ?_
          refine lv_istore (lv' := [(7, .int (iI (1))), (9, .int (iI (RF r))), (8, .int (iI (r))), (0, .ref x0), (1, .ref z0), (2, .ref pp)]) hx hb dL_areAlike_233 hl (by decide) rfl (fun ls hl => ?_)
          refine pv_iinc (lv' := [(8, .int (iI (r + 1))), (7, .int (iI (1))), (9, .int (iI (RF r))), (0, .ref x0), (1, .ref z0), (2, .ref pp)]) hx hb dL_areAlike_235 hl (k := 2) rfl (by decide) rfl (fun ls hl => ?_)
          refine lv_goto (tgt := 167) hx hb dL_areAlike_238 (by decide) ?_
          exact ih (r + 1) ls (by omega) (by omega) (lv_sub hl [0, 1, 3, 4, 5] rfl)
        by_cases hm1 : RF r = -1
        · rw [if_pos hm1] at hrr
          refine pv_icmp_ne (tgt := 204) hx hb dL_areAlike_197 (by decide) (by omega) (fun c9 => False.elim (by omega)) (fun _ => ?_)
          refine pv_iconst hx hb dL_areAlike_200 ?_
          refine lv_goto (tgt := 208) hx hb dL_areAlike_201 (by decide) ?_
          rw [show iI (-1) = iI (RF2 r) from congrArg iI (hrr.symm)]
          exact hjoin ls (lv_sub hl [0, 1, 2, 3, 4, 5] rfl)
        · rw [if_neg hm1] at hrr
          have hx64 : 0 ≤ RF r ∧ RF r < 64 := by
            rcases hRI r (by omega) (by omega) with e9 | ⟨j, b1, b2, b3⟩
            · exact absurd e9 hm1
            · have d1 := hF j b1 b2; have d2 := hfc j b1 b2; omega
          refine pv_icmp_ne (tgt := 204) hx hb dL_areAlike_197 (by decide) (by omega) (fun _ => ?_) (fun c9 => False.elim (by omega))
          refine lv_aload_n hx hb dL_areAlike_204 rfl (lv_at hl 5 rfl) ?_
          refine lv_iload hx hb dL_areAlike_205 (lv_at hl 0 rfl) ?_
          refine pv_ald1 (v := RF2 r) hx hb hK hGP hx64 (by decide) ((hAp _ hx64.1 hx64.2).trans (congrArg iI hrr.symm)) dL_areAlike_207 ?_
          exact hjoin ls (lv_sub hl [0, 1, 2, 3, 4, 5] rfl)
      · skip
        refine lv_iload hx hb dL_areAlike_167 (lv_at hl 0 rfl) ?_
        refine pv_iconst hx hb dL_areAlike_169 ?_
        refine pv_icmp_ge (tgt := 241) hx hb dL_areAlike_170 (by decide) (by omega) (fun _ => ?_) (fun c9 => False.elim (by omega))
        refine lv_iload hx hb dL_areAlike_241 (lv_at hl 1 rfl) ?_
        exact pu_zret hx hb hr hlocks dL_areAlike_243 rfl (Or.inr rfl)
  have hfo : ∀ (fuel : Nat) (k mk : Int) (ls : Array Slot), n - k < fuel → 0 ≤ k ∧ k ≤ n → (-1 ≤ mk ∧ mk ≤ 255) → (k < n → mk < G2 k) → lv_has ls 10 [(3, .int (iI (fa F n k))), (4, .int (iI (fa F2 n k))), (5, .int (iI (k))), (6, .int (iI (mk))), (7, .int (iI (1))), (0, .ref x0), (1, .ref z0), (2, .ref pp)] → W p l e ({ frames := 4, cells := 0, slots := 0, locals := 88 } : Room) s m ([.ref x0, .ref z0, .ref pp] : List Value).toArray below meth c s.heap [] 0 0 (MQ below (pu_Q 1) ([.ref x0, .ref z0, .ref pp] : List Value).toArray s 0 0 (fun _ => False)) (F0 m 35 ls []) := by
    intro fuel
    induction fuel with
    | zero => intro k mk ls h1 h2; exfalso; omega
    | succ fuel ih =>
      intro k mk ls h1 h2 hmk hlt hl
      by_cases hkn : k < n
      · have hFk := hF k (by omega) hkn
        have hfk := hfc k (by omega) hkn
        have hF2k := hF2 k (by omega) hkn
        have hG2k := hG2 k (by omega) hkn
        have e1 := fa_in (F := F) (n := n) (v := k) ⟨by omega, hkn⟩
        have e2 := fa_in (F := F2) (n := n) (v := k) ⟨by omega, hkn⟩
        rw [e1, e2] at hl
        have hx64 : 0 ≤ F k ∧ F k < 64 := by omega
        have hltk := hlt hkn
        refine lv_iload hx hb dL_areAlike_35 (lv_at hl 4 rfl) ?_
        refine pv_if_eq (tgt := 132) hx hb dL_areAlike_37 (by decide) (by omega) (fun c9 => False.elim (by omega)) (fun _ => ?_)
        refine lv_iload_n hx hb dL_areAlike_40 rfl (lv_at hl 0 rfl) ?_
        refine pv_iconst hx hb dL_areAlike_41 ?_
        refine pv_icmp_eq (tgt := 132) hx hb dL_areAlike_42 (by decide) (by omega) (fun c9 => False.elim (by omega)) (fun _ => ?_)
        refine lv_iload hx hb dL_areAlike_45 (lv_at hl 2 rfl) ?_
        refine pv_bipush hx hb dL_areAlike_47 (by decide +kernel) ?_
        refine pv_icmp_ge (tgt := 132) hx hb dL_areAlike_49 (by decide) (by omega) (fun c9 => False.elim (by omega)) (fun _ => ?_)
        refine lv_aload_n hx hb dL_areAlike_52 rfl (lv_at hl 6 rfl) ?_
        refine pv_iconst hx hb dL_areAlike_53 ?_
        refine lv_iload hx hb dL_areAlike_54 (lv_at hl 1 rfl) ?_
        refine ar_call (v := G2 k) (As := [.ref z0, .int (iI (1)), .int (iI (F2 k))]) (rest := []) CP_mv ⟨hx, hb, hml, hown, hts⟩ (q_mark l D cI base st Z z0 z1 z2 z5 z6 z7 hn hF2 (F2 k) (by omega) k (PL_k hJ (by omega)) (by omega)) (vx_cwSW 3 hts gL_areAlike_L_asked rfl rfl rfl (by decide +kernel) ⟨(Nat.le_of_ble_eq_true rfl), (Nat.le_of_ble_eq_true rfl)⟩) ⟨hSW, hC2⟩ rfl rfl hl.1 (Nat.le_of_ble_eq_true rfl) dL_areAlike_56 ⟨Nat.zero_le _, Nat.zero_le _⟩ ?_
        refine lv_istore (lv' := [(8, .int (iI (G2 k))), (3, .int (iI (F k))), (4, .int (iI (F2 k))), (5, .int (iI (k))), (6, .int (iI (mk))), (7, .int (iI (1))), (0, .ref x0), (1, .ref z0), (2, .ref pp)]) hx hb dL_areAlike_59 hl (by decide) rfl (fun ls hl => ?_)
        refine lv_iload hx hb dL_areAlike_61 (lv_at hl 2 rfl) ?_
        refine lv_aload_n hx hb dL_areAlike_63 rfl (lv_at hl 8 rfl) ?_
        refine lv_iload_n hx hb dL_areAlike_64 rfl (lv_at hl 1 rfl) ?_
        refine pv_ald1 (v := F2 k) hx hb hK hGP hx64 (by decide) ((hAp _ hx64.1 hx64.2).trans (congrArg iI (hR.1 k (by omega) hkn).symm)) dL_areAlike_65 ?_
        refine pv_nesame (tgt := 103) hx hb dL_areAlike_66 (by decide) (rfl) ?_
        refine lv_aload_n hx hb dL_areAlike_69 rfl (lv_at hl 6 rfl) ?_
        refine pv_iconst hx hb dL_areAlike_70 ?_
        refine lv_iload_n hx hb dL_areAlike_71 rfl (lv_at hl 1 rfl) ?_
        refine ar_call (v := mb G n (G k)) (As := [.ref x0, .int (iI (2)), .int (iI (F k))]) (rest := []) CP_mv ⟨hx, hb, hml, hown, hts⟩ (q_ahead l D cI base st Z x0 x1 x2 x5 x6 x7 hn hF (F k) (by omega) k (PL_k hI (by omega)) (by omega) hG hs) (vx_cwSW 3 hts gL_areAlike_L_asked rfl rfl rfl (by decide +kernel) ⟨(Nat.le_of_ble_eq_true rfl), (Nat.le_of_ble_eq_true rfl)⟩) ⟨hSW, hC⟩ rfl rfl hl.1 (Nat.le_of_ble_eq_true rfl) dL_areAlike_72 ⟨Nat.zero_le _, Nat.zero_le _⟩ ?_
        rw [show iI (mb G n (G k)) = iI (k) from congrArg iI (mb_k hn.1 hs (by omega))]
        refine lv_iload hx hb dL_areAlike_75 (lv_at hl 3 rfl) ?_
        refine pv_nesame (tgt := 103) hx hb dL_areAlike_77 (by decide) (rfl) ?_
        refine lv_aload_n hx hb dL_areAlike_80 rfl (lv_at hl 7 rfl) ?_
        refine pv_iconst hx hb dL_areAlike_81 ?_
        refine lv_iload hx hb dL_areAlike_82 (lv_at hl 2 rfl) ?_
        refine ar_call (v := mb G2 n (G2 k)) (As := [.ref z0, .int (iI (2)), .int (iI (F2 k))]) (rest := []) CP_mv ⟨hx, hb, hml, hown, hts⟩ (q_ahead l D cI base st Z z0 z1 z2 z5 z6 z7 hn hF2 (F2 k) (by omega) k (PL_k hJ (by omega)) (by omega) hG2 hs2) (vx_cwSW 3 hts gL_areAlike_L_asked rfl rfl rfl (by decide +kernel) ⟨(Nat.le_of_ble_eq_true rfl), (Nat.le_of_ble_eq_true rfl)⟩) ⟨hSW, hC2⟩ rfl rfl hl.1 (Nat.le_of_ble_eq_true rfl) dL_areAlike_84 ⟨Nat.zero_le _, Nat.zero_le _⟩ ?_
        rw [show iI (mb G2 n (G2 k)) = iI (k) from congrArg iI (mb_k hn.1 hs2 (by omega))]
        refine lv_iload hx hb dL_areAlike_87 (lv_at hl 3 rfl) ?_
        refine pv_nesame (tgt := 103) hx hb dL_areAlike_89 (by decide) (rfl) ?_
        refine lv_iload hx hb dL_areAlike_92 (lv_at hl 0 rfl) ?_
        refine lv_iload hx hb dL_areAlike_94 (lv_at hl 4 rfl) ?_
        refine pv_icmp_le (tgt := 103) hx hb dL_areAlike_96 (by decide) (by omega) (fun c9 => False.elim (by omega)) (fun _ => ?_)
        refine pv_iconst hx hb dL_areAlike_99 ?_
        refine lv_goto (tgt := 104) hx hb dL_areAlike_100 (by decide) ?_
        refine lv_istore (lv' := [(7, .int (iI (1))), (8, .int (iI (G2 k))), (3, .int (iI (F k))), (4, .int (iI (F2 k))), (5, .int (iI (k))), (6, .int (iI (mk))), (0, .ref x0), (1, .ref z0), (2, .ref pp)]) hx hb dL_areAlike_104 hl (by decide) rfl (fun ls hl => ?_)
        refine lv_iload hx hb dL_areAlike_106 (lv_at hl 1 rfl) ?_
        refine lv_istore (lv' := [(6, .int (iI (G2 k))), (7, .int (iI (1))), (8, .int (iI (G2 k))), (3, .int (iI (F k))), (4, .int (iI (F2 k))), (5, .int (iI (k))), (0, .ref x0), (1, .ref z0), (2, .ref pp)]) hx hb dL_areAlike_108 hl (by decide) rfl (fun ls hl => ?_)
        refine lv_aload_n hx hb dL_areAlike_110 rfl (lv_at hl 6 rfl) ?_
        refine pv_iconst hx hb dL_areAlike_111 ?_
        refine lv_iload_n hx hb dL_areAlike_112 rfl (lv_at hl 3 rfl) ?_
        refine ar_call (v := fa F n (k + 1)) (As := [.ref x0, .int (iI (0)), .int (iI (F k))]) (rest := []) CP_mv ⟨hx, hb, hml, hown, hts⟩ (q_next l D cI base st Z x0 x1 x2 x5 x6 x7 hn hF (F k) (by omega) k (PL_k hI (by omega)) (by omega) _ rfl) (vx_cwSW 3 hts gL_areAlike_L_asked rfl rfl rfl (by decide +kernel) ⟨(Nat.le_of_ble_eq_true rfl), (Nat.le_of_ble_eq_true rfl)⟩) ⟨hSW, hC⟩ rfl rfl hl.1 (Nat.le_of_ble_eq_true rfl) dL_areAlike_113 ⟨Nat.zero_le _, Nat.zero_le _⟩ ?_
        refine lv_istore_n (lv' := [(3, .int (iI (fa F n (k + 1)))), (6, .int (iI (G2 k))), (7, .int (iI (1))), (8, .int (iI (G2 k))), (4, .int (iI (F2 k))), (5, .int (iI (k))), (0, .ref x0), (1, .ref z0), (2, .ref pp)]) hx hb dL_areAlike_116 rfl hl (by decide) rfl (fun ls hl => ?_)
        refine lv_aload_n hx hb dL_areAlike_117 rfl (lv_at hl 7 rfl) ?_
        refine pv_iconst hx hb dL_areAlike_118 ?_
        refine lv_iload hx hb dL_areAlike_119 (lv_at hl 4 rfl) ?_
        refine ar_call (v := fa F2 n (k + 1)) (As := [.ref z0, .int (iI (0)), .int (iI (F2 k))]) (rest := []) CP_mv ⟨hx, hb, hml, hown, hts⟩ (q_next l D cI base st Z z0 z1 z2 z5 z6 z7 hn hF2 (F2 k) (by omega) k (PL_k hJ (by omega)) (by omega) _ rfl) (vx_cwSW 3 hts gL_areAlike_L_asked rfl rfl rfl (by decide +kernel) ⟨(Nat.le_of_ble_eq_true rfl), (Nat.le_of_ble_eq_true rfl)⟩) ⟨hSW, hC2⟩ rfl rfl hl.1 (Nat.le_of_ble_eq_true rfl) dL_areAlike_121 ⟨Nat.zero_le _, Nat.zero_le _⟩ ?_
        refine lv_istore (lv' := [(4, .int (iI (fa F2 n (k + 1)))), (3, .int (iI (fa F n (k + 1)))), (6, .int (iI (G2 k))), (7, .int (iI (1))), (8, .int (iI (G2 k))), (5, .int (iI (k))), (0, .ref x0), (1, .ref z0), (2, .ref pp)]) hx hb dL_areAlike_124 hl (by decide) rfl (fun ls hl => ?_)
        refine pv_iinc (lv' := [(5, .int (iI (k + 1))), (4, .int (iI (fa F2 n (k + 1)))), (3, .int (iI (fa F n (k + 1)))), (6, .int (iI (G2 k))), (7, .int (iI (1))), (8, .int (iI (G2 k))), (0, .ref x0), (1, .ref z0), (2, .ref pp)]) hx hb dL_areAlike_126 hl (k := 5) rfl (by decide) rfl (fun ls hl => ?_)
        refine lv_goto (tgt := 35) hx hb dL_areAlike_129 (by decide) ?_
        exact ih (k + 1) (G2 k) ls (by omega) (by omega) (by omega) (fun h9 => hs2 k (k + 1) (by omega) (by omega) h9) (lv_sub hl [2, 1, 0, 3, 4, 6, 7, 8] rfl)
      · have e1 := fa_out (F := F) (n := n) (v := k) (fun z => hkn z.2)
        have e2 := fa_out (F := F2) (n := n) (v := k) (fun z => hkn z.2)
        rw [e1, e2] at hl
        refine lv_iload hx hb dL_areAlike_35 (lv_at hl 4 rfl) ?_
        refine pv_if_eq (tgt := 132) hx hb dL_areAlike_37 (by decide) (by omega) (fun c9 => False.elim (by omega)) (fun _ => ?_)
        refine lv_iload_n hx hb dL_areAlike_40 rfl (lv_at hl 0 rfl) ?_
        refine pv_iconst hx hb dL_areAlike_41 ?_
        refine pv_icmp_eq (tgt := 132) hx hb dL_areAlike_42 (by decide) (by omega) (fun _ => ?_) (fun c9 => False.elim (by omega))
        refine lv_iload hx hb dL_areAlike_132 (lv_at hl 4 rfl) ?_
        refine pv_if_eq (tgt := 161) hx hb dL_areAlike_134 (by decide) (by omega) (fun c9 => False.elim (by omega)) (fun _ => ?_)
        refine lv_iload_n hx hb dL_areAlike_137 rfl (lv_at hl 0 rfl) ?_
        refine pv_iconst hx hb dL_areAlike_138 ?_
        refine pv_icmp_ne (tgt := 161) hx hb dL_areAlike_139 (by decide) (by omega) (fun c9 => False.elim (by omega)) (fun _ => ?_)
        refine lv_iload hx hb dL_areAlike_142 (lv_at hl 1 rfl) ?_
        refine pv_iconst hx hb dL_areAlike_144 ?_
        refine pv_icmp_ne (tgt := 161) hx hb dL_areAlike_145 (by decide) (by omega) (fun c9 => False.elim (by omega)) (fun _ => ?_)
        refine lv_iload hx hb dL_areAlike_148 (lv_at hl 2 rfl) ?_
        refine lv_aload_n hx hb dL_areAlike_150 rfl (lv_at hl 5 rfl) ?_
        refine pu_callV (v := n) (As := []) (rest := [.int (iI (k))]) CP_mv ⟨hx, hb, hml, hown, hts⟩ (c_size l D cI base st Z x0 x1 x2 x5 x6 x7 hn) (cwV 0 hts gL_areAlike_X0_size rfl rfl rfl (by decide +kernel) ⟨(Nat.le_of_ble_eq_true rfl), (Nat.le_of_ble_eq_true rfl)⟩) ⟨hSW, hC⟩ (CP_rc ⟨hSW, hC⟩) rfl rfl hl.1 (Nat.le_of_ble_eq_true rfl) dL_areAlike_151 ⟨Nat.zero_le _, Nat.zero_le _⟩ ?_
        refine pv_nesame (tgt := 161) hx hb dL_areAlike_154 (by decide) (show k = n by omega) ?_
        refine pv_iconst hx hb dL_areAlike_157 ?_
        refine lv_goto (tgt := 162) hx hb dL_areAlike_158 (by decide) ?_
        refine lv_istore (lv' := [(7, .int (iI (1))), (3, .int (iI (-1))), (4, .int (iI (-1))), (5, .int (iI (k))), (6, .int (iI (mk))), (0, .ref x0), (1, .ref z0), (2, .ref pp)]) hx hb dL_areAlike_162 hl (by decide) rfl (fun ls hl => ?_)
        refine pv_iconst hx hb dL_areAlike_164 ?_
        refine lv_istore (lv' := [(8, .int (iI (0))), (7, .int (iI (1))), (3, .int (iI (-1))), (4, .int (iI (-1))), (5, .int (iI (k))), (6, .int (iI (mk))), (0, .ref x0), (1, .ref z0), (2, .ref pp)]) hx hb dL_areAlike_165 hl (by decide) rfl (fun ls hl => ?_)
        exact hrd 5 0 ls (by omega) (by omega) (lv_sub hl [0, 1, 6, 7, 8] rfl)
  exact hfo (n.toNat + 1) 0 (-1) ls (by omega) (by omega) (by omega) (fun h9 => by have := hG2 0 (by omega) h9; omega) (lv_sub hl [4, 3, 2, 1, 0, 5, 6, 7] rfl)
end
section
/-! a folder that is carried: where it comes to stand -/
def cq (p b : Int) : Int := if b < p then b else b - 1
theorem cq_at {F : Int → Int} {p b : Int} (hne : p ≠ b) : remF F p (cq p b) = F b := by
  unfold remF cq
  by_cases z : b < p
  · rw [if_pos z, if_pos z]
  · rw [if_neg z, if_neg (by omega), show b - 1 + 1 = b by omega]
theorem cq_rg {n p b : Int} (hp : 0 ≤ p ∧ p < n) (hb : 0 ≤ b ∧ b < n) (hne : p ≠ b) : 0 ≤ cq p b ∧ cq p b < n - 1 := by
  unfold cq
  by_cases z : b < p
  · rw [if_pos z]; omega
  · rw [if_neg z]; omega
theorem carry_ok {n came : Int} {F G RF : Int → Int} (h : INV n came F G RF) {p b : Int} (hp : 0 ≤ p ∧ p < n) (hb : 0 ≤ b ∧ b < n) (hne : p ≠ b) : F p ≠ F b ∧ PL (remF F p) (n - 1) (F b) (cq p b) ∧ (∀ k : Int, 0 ≤ k → k < n - 1 → 0 ≤ remF G p k ∧ remF G p k ≤ 255) ∧ SD (remF G p) (n - 1) ∧ (∀ k : Int, 0 ≤ k → k < n - 1 → 0 ≤ remF F p k ∧ remF F p k < 200) ∧ (∀ k : Int, 0 ≤ k → k < n → 0 ≤ insF (remF F p) (cq p b + 1) (F p) k ∧ insF (remF F p) (cq p b + 1) (F p) k < 200) ∧ PL (insF (remF F p) (cq p b + 1) (F p)) n (F p) (cq p b + 1) := by
  obtain ⟨h1, h2, h3, h4, h5, h6, h7, h8⟩ := h
  have hq := cq_rg hp hb hne
  have hF1 := rem_rg (P := fun z => 0 ≤ z ∧ z < 200) h3 hp
  refine ⟨fun e => hne (h5 p b hp.1 hp.2 hb.1 hb.2 e), Or.inr ⟨hq.1, hq.2, cq_at hne, fun k a1 a2 e => ?_⟩, rem_rg (P := fun z => 0 ≤ z ∧ z ≤ 255) h6 hp, rem_SD h7 hp, hF1, fun k a1 a2 => insF_rg (n := n - 1) hF1 (h3 p hp.1 hp.2) (by omega) k a1 (by omega), ins_PL (n := n - 1) (fun k a1 a2 => rem_ne h5 hp k a1 a2) (by omega) (by omega)⟩
  have := rem_inj h5 hp k (cq p b) a1 (by omega) hq.1 hq.2 (e.trans (cq_at hne).symm)
  omega
end
section
/-- which cells a step may change -/
def mS (x0 x1 x2 x5 x6 x7 z0 z1 z2 z5 z6 z7 pp : Nat) : Nat → Prop := fun q => mC x0 x1 x2 x5 x6 x7 q ∨ mC z0 z1 z2 z5 z6 z7 q ∨ q = pp
set_option maxHeartbeats 4000000 in
set_option maxRecDepth 100000 in
theorem st_first {p : Program} {e : Env} {s : State} {m : MethodId} {below : List Frame} {meth : Method} {c : Code} (l : Launch) (hfl : l.stackTraces = false) {D : va_G} {cI : ClassId} {base st : Nat} {Z : Nat → Nat} {x0 x1 x2 x5 x6 x7 z0 z1 z2 z5 z6 z7 pp : Nat} {z : Int}
    (B : bd_At p s m ([.ref x0, .ref z0, .ref pp, .int (iI (z))] : List Value).toArray meth c cL_step 11 (some .boolean) wsL_step RL) (hSW0 : SW D cI base st Z s s.heap) (hDJ : DJ base x0 x1 x2 x5 x6 x7 z0 z1 z2 z5 z6 z7 pp) (hnc1 : va_Nc "java/lang/IllegalArgumentException" "java/lang/IllegalStateException" s) (hnc2 : va_Nc "java/lang/IllegalArgumentException" "java/lang/IndexOutOfBoundsException" s) (hS : va_S (mS x0 x1 x2 x5 x6 x7 z0 z1 z2 z5 z6 z7 pp) s.heap s.heap [])
    {n c1 M1 c2 M2 : Int} {F G SP RF RC F2 G2 SP2 RF2 RC2 PN : Int → Int} (hC : CW D cI base x0 x1 x2 x5 x6 x7 n c1 M1 F G SP RF RC s.heap) (hC2 : CW D cI base z0 z1 z2 z5 z6 z7 n c2 M2 F2 G2 SP2 RF2 RC2 s.heap) (hO : OP D cI pp PN s.heap) (hI : INV n c1 F G RF) (hJ : INV n c2 F2 G2 RF2) (hR : REL n F F2 RF RF2 RC RC2 PN) {k1 k2 : Int} (hn1 : n ≤ c1) (hk1 : c1 ≤ k1 ∧ k1 < 60) (hk2 : c2 ≤ k2 ∧ k2 < 200)
    {kd w : Int}  {fo : Int} {ls : Array Slot} (hl : lv_has ls 11 [(0, .ref x0), (1, .ref z0), (2, .ref pp), (3, .int (iI (z))), (4, .int (iI (n))), (5, .int (iI (kd))), (6, .int (iI (w))), (7, .int (iI (fo)))]) : W p l e ({ frames := 8, cells := 2, slots := 12, locals := 186 } : Room) s m ([.ref x0, .ref z0, .ref pp, .int (iI (z))] : List Value).toArray below meth c s.heap [] 0 0 (MQ below (mu_Q (some (.int (iI 1))) (fun H => RW D cI base x0 x1 x2 x5 x6 x7 z0 z1 z2 z5 z6 z7 pp (k1 + 1) (k2 + 1) H) (mS x0 x1 x2 x5 x6 x7 z0 z1 z2 z5 z6 z7 pp)) ([.ref x0, .ref z0, .ref pp, .int (iI (z))] : List Value).toArray s 2 12 (mS x0 x1 x2 x5 x6 x7 z0 z1 z2 z5 z6 z7 pp)) (F0 m 48 ls []) := by
  obtain ⟨hx, hb, hml, hr, hts, hown, hlocks⟩ := B
  have hK := hSW0.1
  obtain ⟨hn, hcm, hF, hfc, hFi, hG, hs, hRI⟩ := id hI
  obtain ⟨_, hcm2, hF2, hfc2, hFi2, hG2, hs2, hRI2⟩ := id hJ
  have hbl : base ≤ s.heap.size := CW_lt hC
  have hAb : ∀ q, (mS x0 x1 x2 x5 x6 x7 z0 z1 z2 z5 z6 z7 pp) q → base ≤ q := fun q h => by rcases h with h | h | h; exact CW_b hC q h; exact CW_b hC2 q h; exact h ▸ hDJ.2.2.2
  have hSW := hSW0
  obtain ⟨Ga, dm, SPa, hPT⟩ := PT_ex G n (0) SP
  obtain ⟨Gb, dn, SPb, hPT2⟩ := PT_ex G2 n (0) SP2
  refine lv_aload_n hx hb dL_step_48 rfl (lv_at hl 0 rfl) ?_
  refine pv_iconst hx hb dL_step_49 ?_
  refine pv_iconst hx hb dL_step_50 ?_
  refine pv_iconst hx hb dL_step_51 ?_
  refine wr_call (As := [.ref x0, .int (iI (0)), .int (iI (0)), .int (iI (0))]) (rest := []) CP_mv ⟨hx, hb, hml, hown, hts⟩ (d_putFirst l D cI base st Z x0 x1 x2 x5 x6 x7 (by omega) hG hs (by omega) Ga dm SPa hPT 0 0) (vx_cwSW 4 hts gL_step_L_done rfl rfl rfl (by decide +kernel) ⟨(Nat.le_of_ble_eq_true rfl), (Nat.le_of_ble_eq_true rfl)⟩) ⟨hSW, hC⟩ rfl rfl hl.1 (Nat.le_of_ble_eq_true rfl) dL_step_52 ⟨(Nat.le_of_ble_eq_true rfl), (Nat.le_of_ble_eq_true rfl)⟩ hS (fun q h => Or.inl h) (fun H locs hP2 hz hk hS => ?_)
  have hC : CW D cI base x0 x1 x2 x5 x6 x7 (n + 1) (c1 + 1) (M1 + dm) (insF F (0) c1) Ga SPa RF RC H := hP2
  have hC2 := CW_fr hC2 hk (fun q h y => hDJ.1 q y h)
  have hO := OP_fr hO hk hDJ.2.1
  have hSW := hSW0.behind hbl hAb hS
  refine lv_istore (lv' := [(8, .int (iI (c1))), (0, .ref x0), (1, .ref z0), (2, .ref pp), (3, .int (iI (z))), (4, .int (iI (n))), (5, .int (iI (kd))), (6, .int (iI (w))), (7, .int (iI (fo)))]) hx hb dL_step_55 hl (by decide) rfl (fun ls hl => ?_)
  refine lv_aload_n hx hb dL_step_57 rfl (lv_at hl 2 rfl) ?_
  refine pv_iconst hx hb dL_step_58 ?_
  refine pv_iconst hx hb dL_step_59 ?_
  refine pv_iconst hx hb dL_step_60 ?_
  refine wr_call (As := [.ref z0, .int (iI (0)), .int (iI (0)), .int (iI (0))]) (rest := []) CP_mv ⟨hx, hb, hml, hown, hts⟩ (d_putFirst l D cI base st Z z0 z1 z2 z5 z6 z7 (by omega) hG2 hs2 (by omega) Gb dn SPb hPT2 0 0) (vx_cwSW 4 hts gL_step_L_done rfl rfl rfl (by decide +kernel) ⟨(Nat.le_of_ble_eq_true rfl), (Nat.le_of_ble_eq_true rfl)⟩) ⟨hSW, hC2⟩ rfl rfl hl.1 (Nat.le_of_ble_eq_true rfl) dL_step_61 ⟨(Nat.le_of_ble_eq_true rfl), (Nat.le_of_ble_eq_true rfl)⟩ hS (fun q h => Or.inr (Or.inl h)) (fun H locs hP2 hz hk hS => ?_)
  have hC2 : CW D cI base z0 z1 z2 z5 z6 z7 (n + 1) (c2 + 1) (M2 + dn) (insF F2 (0) c2) Gb SPb RF2 RC2 H := hP2
  have hC := CW_fr hC hk (fun q h y => hDJ.1 q h y)
  have hO := OP_fr hO hk hDJ.2.2.1
  have hSW := hSW0.behind hbl hAb hS
  refine lv_istore (lv' := [(9, .int (iI (c2))), (8, .int (iI (c1))), (0, .ref x0), (1, .ref z0), (2, .ref pp), (3, .int (iI (z))), (4, .int (iI (n))), (5, .int (iI (kd))), (6, .int (iI (w))), (7, .int (iI (fo)))]) hx hb dL_step_64 hl (by decide) rfl (fun ls hl => ?_)
  refine lv_iload hx hb dL_step_66 (lv_at hl 1 rfl) ?_
  refine pv_if_lt (tgt := 77) hx hb dL_step_68 (by decide) (by omega) (fun c9 => False.elim (by omega)) (fun _ => ?_)
  refine lv_aload_n hx hb dL_step_71 rfl (lv_at hl 4 rfl) ?_
  refine lv_iload hx hb dL_step_72 (lv_at hl 1 rfl) ?_
  refine lv_iload hx hb dL_step_74 (lv_at hl 0 rfl) ?_
  obtain ⟨pf, hAp, hGP⟩ := hO
  refine pv_ast1 (i := c1) (v := c2) hx hb hK hGP hS (Or.inr (Or.inr rfl)) (show 0 ≤ c1 ∧ c1 < 64 by omega) (by decide) dL_step_76 (fun H locs hGP hz hk hS => ?_)
  have hO : OP D cI pp (uI PN c1 c2) H := ⟨_, AR_up hAp (by omega), hGP⟩
  have hC := CW_fr (A := fun q => q = pp) hC hk (fun q h y => hDJ.2.1 (y ▸ h))
  have hC2 := CW_fr (A := fun q => q = pp) hC2 hk (fun q h y => hDJ.2.2.1 (y ▸ h))
  refine lv_iload hx hb dL_step_77 (lv_at hl 1 rfl) ?_
  refine pv_if_ge (tgt := 86) hx hb dL_step_79 (by decide) (by omega) (fun _ => ?_) (fun c9 => False.elim (by omega))
  refine pv_iconst hx hb dL_step_86 ?_
  refine lv_iload hx hb dL_step_87 (lv_at hl 0 rfl) ?_
  refine pv_if_ge (tgt := 96) hx hb dL_step_89 (by decide) (by omega) (fun _ => ?_) (fun c9 => False.elim (by omega))
  refine pv_iconst hx hb dL_step_96 ?_
  refine pv_icmp_ne (tgt := 104) hx hb dL_step_97 (by decide) (by omega) (fun c9 => False.elim (by omega)) (fun _ => ?_)
  refine pv_iconst hx hb dL_step_100 ?_
  refine lv_goto (tgt := 105) hx hb dL_step_101 (by decide) ?_
  refine W.widen (k := 2) (n := 12) (by omega) (by omega) ?_
  exact nw_zret hx hb hr hlocks hS dL_step_105 rfl (Or.inr rfl) ⟨_, _, _, _, _, _, _, _, _, _, _, _, _, _, _, _, hC, hC2, hO, INV_put hI (by omega) (by omega) (by omega) hPT, INV_put hJ (by omega) (by omega) (by omega) hPT2, REL_put hI hJ hR (by omega), by omega, by omega, by omega⟩
set_option maxHeartbeats 4000000 in
set_option maxRecDepth 100000 in
theorem st_behind {p : Program} {e : Env} {s : State} {m : MethodId} {below : List Frame} {meth : Method} {c : Code} (l : Launch) (hfl : l.stackTraces = false) {D : va_G} {cI : ClassId} {base st : Nat} {Z : Nat → Nat} {x0 x1 x2 x5 x6 x7 z0 z1 z2 z5 z6 z7 pp : Nat} {z : Int}
    (B : bd_At p s m ([.ref x0, .ref z0, .ref pp, .int (iI (z))] : List Value).toArray meth c cL_step 11 (some .boolean) wsL_step RL) (hSW0 : SW D cI base st Z s s.heap) (hDJ : DJ base x0 x1 x2 x5 x6 x7 z0 z1 z2 z5 z6 z7 pp) (hnc1 : va_Nc "java/lang/IllegalArgumentException" "java/lang/IllegalStateException" s) (hnc2 : va_Nc "java/lang/IllegalArgumentException" "java/lang/IndexOutOfBoundsException" s) (hS : va_S (mS x0 x1 x2 x5 x6 x7 z0 z1 z2 z5 z6 z7 pp) s.heap s.heap [])
    {n c1 M1 c2 M2 : Int} {F G SP RF RC F2 G2 SP2 RF2 RC2 PN : Int → Int} (hC : CW D cI base x0 x1 x2 x5 x6 x7 n c1 M1 F G SP RF RC s.heap) (hC2 : CW D cI base z0 z1 z2 z5 z6 z7 n c2 M2 F2 G2 SP2 RF2 RC2 s.heap) (hO : OP D cI pp PN s.heap) (hI : INV n c1 F G RF) (hJ : INV n c2 F2 G2 RF2) (hR : REL n F F2 RF RF2 RC RC2 PN) {k1 k2 : Int} (hn1 : n ≤ c1) (hk1 : c1 ≤ k1 ∧ k1 < 60) (hk2 : c2 ≤ k2 ∧ k2 < 200)
    {kd w : Int} {v : Int} (hv : 0 ≤ v ∧ v < n) {ls : Array Slot} (hl : lv_has ls 11 [(0, .ref x0), (1, .ref z0), (2, .ref pp), (3, .int (iI (z))), (4, .int (iI (n))), (5, .int (iI (kd))), (6, .int (iI (w))), (7, .int (iI (F v)))]) : W p l e ({ frames := 8, cells := 2, slots := 12, locals := 186 } : Room) s m ([.ref x0, .ref z0, .ref pp, .int (iI (z))] : List Value).toArray below meth c s.heap [] 0 0 (MQ below (mu_Q (some (.int (iI 1))) (fun H => RW D cI base x0 x1 x2 x5 x6 x7 z0 z1 z2 z5 z6 z7 pp (k1 + 1) (k2 + 1) H) (mS x0 x1 x2 x5 x6 x7 z0 z1 z2 z5 z6 z7 pp)) ([.ref x0, .ref z0, .ref pp, .int (iI (z))] : List Value).toArray s 2 12 (mS x0 x1 x2 x5 x6 x7 z0 z1 z2 z5 z6 z7 pp)) (F0 m 113 ls []) := by
  obtain ⟨hx, hb, hml, hr, hts, hown, hlocks⟩ := B
  have hK := hSW0.1
  obtain ⟨hn, hcm, hF, hfc, hFi, hG, hs, hRI⟩ := id hI
  obtain ⟨_, hcm2, hF2, hfc2, hFi2, hG2, hs2, hRI2⟩ := id hJ
  have hbl : base ≤ s.heap.size := CW_lt hC
  have hAb : ∀ q, (mS x0 x1 x2 x5 x6 x7 z0 z1 z2 z5 z6 z7 pp) q → base ≤ q := fun q h => by rcases h with h | h | h; exact CW_b hC q h; exact CW_b hC2 q h; exact h ▸ hDJ.2.2.2
  have hSW := hSW0
  have hFv := hF v hv.1 hv.2
  have hfcv := hfc v hv.1 hv.2
  have hF2v := hF2 v hv.1 hv.2
  have hRFX := INV_RF hI
  have hRFZ := INV_RF hJ
  obtain ⟨Ga, dm, SPa, hPT⟩ := PT_ex G n (v + 1) SP
  obtain ⟨Gb, dn, SPb, hPT2⟩ := PT_ex G2 n (v + 1) SP2
  refine lv_aload_n hx hb dL_step_113 rfl (lv_at hl 0 rfl) ?_
  refine pv_iconst hx hb dL_step_114 ?_
  refine lv_iload hx hb dL_step_115 (lv_at hl 7 rfl) ?_
  refine pv_iconst hx hb dL_step_117 ?_
  refine wr_call (As := [.ref x0, .int (iI (1)), .int (iI (F v)), .int (iI (0))]) (rest := []) CP_mv ⟨hx, hb, hml, hown, hts⟩ (d_putBehind l D cI base st Z x0 x1 x2 x5 x6 x7 (by omega) hF hG hs (by omega) (F v) (by omega) v (PL_k hI hv) hv.1 Ga dm SPa hPT 0) (vx_cwSW 4 hts gL_step_L_done rfl rfl rfl (by decide +kernel) ⟨(Nat.le_of_ble_eq_true rfl), (Nat.le_of_ble_eq_true rfl)⟩) ⟨hSW, hC⟩ rfl rfl hl.1 (Nat.le_of_ble_eq_true rfl) dL_step_118 ⟨(Nat.le_of_ble_eq_true rfl), (Nat.le_of_ble_eq_true rfl)⟩ hS (fun q h => Or.inl h) (fun H locs hP2 hz hk hS => ?_)
  have hC : CW D cI base x0 x1 x2 x5 x6 x7 (n + 1) (c1 + 1) (M1 + dm) (insF F (v + 1) c1) Ga SPa RF RC H := hP2
  have hC2 := CW_fr hC2 hk (fun q h y => hDJ.1 q y h)
  have hO := OP_fr hO hk hDJ.2.1
  have hSW := hSW0.behind hbl hAb hS
  refine lv_istore (lv' := [(8, .int (iI (c1))), (0, .ref x0), (1, .ref z0), (2, .ref pp), (3, .int (iI (z))), (4, .int (iI (n))), (5, .int (iI (kd))), (6, .int (iI (w))), (7, .int (iI (F v)))]) hx hb dL_step_121 hl (by decide) rfl (fun ls hl => ?_)
  refine lv_aload_n hx hb dL_step_123 rfl (lv_at hl 2 rfl) ?_
  refine pv_iconst hx hb dL_step_124 ?_
  refine lv_aload_n hx hb dL_step_125 rfl (lv_at hl 3 rfl) ?_
  refine lv_iload hx hb dL_step_126 (lv_at hl 8 rfl) ?_
  obtain ⟨pf, hAp, hGP⟩ := id hO
  refine pv_ald1 (v := F2 v) hx hb hK hGP (show 0 ≤ F v ∧ F v < 64 by omega) (by decide) ((hAp _ (by omega) (by omega)).trans (congrArg iI ((hR.1 v hv.1 hv.2).symm))) dL_step_128 ?_
  refine pv_iconst hx hb dL_step_129 ?_
  refine wr_call (As := [.ref z0, .int (iI (1)), .int (iI (F2 v)), .int (iI (0))]) (rest := []) CP_mv ⟨hx, hb, hml, hown, hts⟩ (d_putBehind l D cI base st Z z0 z1 z2 z5 z6 z7 (by omega) hF2 hG2 hs2 (by omega) (F2 v) (by omega) v (PL_k hJ hv) hv.1 Gb dn SPb hPT2 0) (vx_cwSW 4 hts gL_step_L_done rfl rfl rfl (by decide +kernel) ⟨(Nat.le_of_ble_eq_true rfl), (Nat.le_of_ble_eq_true rfl)⟩) ⟨hSW, hC2⟩ rfl rfl hl.1 (Nat.le_of_ble_eq_true rfl) dL_step_130 ⟨(Nat.le_of_ble_eq_true rfl), (Nat.le_of_ble_eq_true rfl)⟩ hS (fun q h => Or.inr (Or.inl h)) (fun H locs hP2 hz hk hS => ?_)
  have hC2 : CW D cI base z0 z1 z2 z5 z6 z7 (n + 1) (c2 + 1) (M2 + dn) (insF F2 (v + 1) c2) Gb SPb RF2 RC2 H := hP2
  have hC := CW_fr hC hk (fun q h y => hDJ.1 q h y)
  have hO := OP_fr hO hk hDJ.2.2.1
  have hSW := hSW0.behind hbl hAb hS
  refine lv_istore (lv' := [(9, .int (iI (c2))), (8, .int (iI (c1))), (0, .ref x0), (1, .ref z0), (2, .ref pp), (3, .int (iI (z))), (4, .int (iI (n))), (5, .int (iI (kd))), (6, .int (iI (w))), (7, .int (iI (F v)))]) hx hb dL_step_133 hl (by decide) rfl (fun ls hl => ?_)
  refine lv_iload hx hb dL_step_135 (lv_at hl 1 rfl) ?_
  refine pv_if_lt (tgt := 146) hx hb dL_step_137 (by decide) (by omega) (fun c9 => False.elim (by omega)) (fun _ => ?_)
  refine lv_aload_n hx hb dL_step_140 rfl (lv_at hl 4 rfl) ?_
  refine lv_iload hx hb dL_step_141 (lv_at hl 1 rfl) ?_
  refine lv_iload hx hb dL_step_143 (lv_at hl 0 rfl) ?_
  obtain ⟨pf, hAp, hGP⟩ := hO
  refine pv_ast1 (i := c1) (v := c2) hx hb hK hGP hS (Or.inr (Or.inr rfl)) (show 0 ≤ c1 ∧ c1 < 64 by omega) (by decide) dL_step_145 (fun H locs hGP hz hk hS => ?_)
  have hO : OP D cI pp (uI PN c1 c2) H := ⟨_, AR_up hAp (by omega), hGP⟩
  have hC := CW_fr (A := fun q => q = pp) hC hk (fun q h y => hDJ.2.1 (y ▸ h))
  have hC2 := CW_fr (A := fun q => q = pp) hC2 hk (fun q h y => hDJ.2.2.1 (y ▸ h))
  refine lv_iload hx hb dL_step_146 (lv_at hl 1 rfl) ?_
  refine pv_if_ge (tgt := 155) hx hb dL_step_148 (by decide) (by omega) (fun _ => ?_) (fun c9 => False.elim (by omega))
  refine pv_iconst hx hb dL_step_155 ?_
  refine lv_iload hx hb dL_step_156 (lv_at hl 0 rfl) ?_
  refine pv_if_ge (tgt := 165) hx hb dL_step_158 (by decide) (by omega) (fun _ => ?_) (fun c9 => False.elim (by omega))
  refine pv_iconst hx hb dL_step_165 ?_
  refine pv_icmp_ne (tgt := 173) hx hb dL_step_166 (by decide) (by omega) (fun c9 => False.elim (by omega)) (fun _ => ?_)
  refine pv_iconst hx hb dL_step_169 ?_
  refine lv_goto (tgt := 174) hx hb dL_step_170 (by decide) ?_
  refine W.widen (k := 2) (n := 12) (by omega) (by omega) ?_
  exact nw_zret hx hb hr hlocks hS dL_step_174 rfl (Or.inr rfl) ⟨_, _, _, _, _, _, _, _, _, _, _, _, _, _, _, _, hC, hC2, hO, INV_put hI (by omega) (by omega) (by omega) hPT, INV_put hJ (by omega) (by omega) (by omega) hPT2, REL_put hI hJ hR (by omega), by omega, by omega, by omega⟩
set_option maxHeartbeats 4000000 in
set_option maxRecDepth 100000 in
theorem st_take {p : Program} {e : Env} {s : State} {m : MethodId} {below : List Frame} {meth : Method} {c : Code} (l : Launch) (hfl : l.stackTraces = false) {D : va_G} {cI : ClassId} {base st : Nat} {Z : Nat → Nat} {x0 x1 x2 x5 x6 x7 z0 z1 z2 z5 z6 z7 pp : Nat} {z : Int}
    (B : bd_At p s m ([.ref x0, .ref z0, .ref pp, .int (iI (z))] : List Value).toArray meth c cL_step 11 (some .boolean) wsL_step RL) (hSW0 : SW D cI base st Z s s.heap) (hDJ : DJ base x0 x1 x2 x5 x6 x7 z0 z1 z2 z5 z6 z7 pp) (hnc1 : va_Nc "java/lang/IllegalArgumentException" "java/lang/IllegalStateException" s) (hnc2 : va_Nc "java/lang/IllegalArgumentException" "java/lang/IndexOutOfBoundsException" s) (hS : va_S (mS x0 x1 x2 x5 x6 x7 z0 z1 z2 z5 z6 z7 pp) s.heap s.heap [])
    {n c1 M1 c2 M2 : Int} {F G SP RF RC F2 G2 SP2 RF2 RC2 PN : Int → Int} (hC : CW D cI base x0 x1 x2 x5 x6 x7 n c1 M1 F G SP RF RC s.heap) (hC2 : CW D cI base z0 z1 z2 z5 z6 z7 n c2 M2 F2 G2 SP2 RF2 RC2 s.heap) (hO : OP D cI pp PN s.heap) (hI : INV n c1 F G RF) (hJ : INV n c2 F2 G2 RF2) (hR : REL n F F2 RF RF2 RC RC2 PN) {k1 k2 : Int} (hn1 : n ≤ c1) (hk1 : c1 ≤ k1 ∧ k1 < 60) (hk2 : c2 ≤ k2 ∧ k2 < 200)
    {kd w : Int} {v : Int} (hv : 0 ≤ v ∧ v < n) {ls : Array Slot} (hl : lv_has ls 11 [(0, .ref x0), (1, .ref z0), (2, .ref pp), (3, .int (iI (z))), (4, .int (iI (n))), (5, .int (iI (kd))), (6, .int (iI (w))), (7, .int (iI (F v)))]) : W p l e ({ frames := 8, cells := 2, slots := 12, locals := 186 } : Room) s m ([.ref x0, .ref z0, .ref pp, .int (iI (z))] : List Value).toArray below meth c s.heap [] 0 0 (MQ below (mu_Q (some (.int (iI 1))) (fun H => RW D cI base x0 x1 x2 x5 x6 x7 z0 z1 z2 z5 z6 z7 pp (k1 + 1) (k2 + 1) H) (mS x0 x1 x2 x5 x6 x7 z0 z1 z2 z5 z6 z7 pp)) ([.ref x0, .ref z0, .ref pp, .int (iI (z))] : List Value).toArray s 2 12 (mS x0 x1 x2 x5 x6 x7 z0 z1 z2 z5 z6 z7 pp)) (F0 m 182 ls []) := by
  obtain ⟨hx, hb, hml, hr, hts, hown, hlocks⟩ := B
  have hK := hSW0.1
  obtain ⟨hn, hcm, hF, hfc, hFi, hG, hs, hRI⟩ := id hI
  obtain ⟨_, hcm2, hF2, hfc2, hFi2, hG2, hs2, hRI2⟩ := id hJ
  have hbl : base ≤ s.heap.size := CW_lt hC
  have hAb : ∀ q, (mS x0 x1 x2 x5 x6 x7 z0 z1 z2 z5 z6 z7 pp) q → base ≤ q := fun q h => by rcases h with h | h | h; exact CW_b hC q h; exact CW_b hC2 q h; exact h ▸ hDJ.2.2.2
  have hSW := hSW0
  have hFv := hF v hv.1 hv.2
  have hfcv := hfc v hv.1 hv.2
  have hF2v := hF2 v hv.1 hv.2
  have hRFX := INV_RF hI
  have hRFZ := INV_RF hJ
  refine lv_aload_n hx hb dL_step_182 rfl (lv_at hl 0 rfl) ?_
  refine pv_iconst hx hb dL_step_183 ?_
  refine lv_iload hx hb dL_step_184 (lv_at hl 7 rfl) ?_
  refine pv_iconst hx hb dL_step_186 ?_
  refine wr_call (As := [.ref x0, .int (iI (2)), .int (iI (F v)), .int (iI (0))]) (rest := []) CP_mv ⟨hx, hb, hml, hown, hts⟩ (d_takeOut l D cI base st Z x0 x1 x2 x5 x6 x7 hn hF hRFX (F v) (by omega) v (PL_k hI hv) hv.1 0) (vx_cwSW 4 hts gL_step_L_done rfl rfl rfl (by decide +kernel) ⟨(Nat.le_of_ble_eq_true rfl), (Nat.le_of_ble_eq_true rfl)⟩) ⟨hSW, hC⟩ rfl rfl hl.1 (Nat.le_of_ble_eq_true rfl) dL_step_187 ⟨(Nat.le_of_ble_eq_true rfl), (Nat.le_of_ble_eq_true rfl)⟩ hS (fun q h => Or.inl h) (fun H locs hP2 hz hk hS => ?_)
  have hC : CW D cI base x0 x1 x2 x5 x6 x7 (n - 1) c1 M1 (remF F v) (remF G v) SP (sendF RF (F v) (fa F n (v + 1))) RC H := hP2
  have hC2 := CW_fr hC2 hk (fun q h y => hDJ.1 q y h)
  have hO := OP_fr hO hk hDJ.2.1
  have hSW := hSW0.behind hbl hAb hS
  refine lv_aload_n hx hb dL_step_190 rfl (lv_at hl 1 rfl) ?_
  refine pv_iconst hx hb dL_step_191 ?_
  refine lv_aload_n hx hb dL_step_192 rfl (lv_at hl 2 rfl) ?_
  refine lv_iload hx hb dL_step_193 (lv_at hl 7 rfl) ?_
  obtain ⟨pf, hAp, hGP⟩ := id hO
  refine pv_ald1 (v := F2 v) hx hb hK hGP (show 0 ≤ F v ∧ F v < 64 by omega) (by decide) ((hAp _ (by omega) (by omega)).trans (congrArg iI ((hR.1 v hv.1 hv.2).symm))) dL_step_195 ?_
  refine pv_iconst hx hb dL_step_196 ?_
  refine wr_call (As := [.ref z0, .int (iI (2)), .int (iI (F2 v)), .int (iI (0))]) (rest := [.int (iI (n - 1))]) CP_mv ⟨hx, hb, hml, hown, hts⟩ (d_takeOut l D cI base st Z z0 z1 z2 z5 z6 z7 hn hF2 hRFZ (F2 v) (by omega) v (PL_k hJ hv) hv.1 0) (vx_cwSW 4 hts gL_step_L_done rfl rfl rfl (by decide +kernel) ⟨(Nat.le_of_ble_eq_true rfl), (Nat.le_of_ble_eq_true rfl)⟩) ⟨hSW, hC2⟩ rfl rfl hl.1 (Nat.le_of_ble_eq_true rfl) dL_step_197 ⟨(Nat.le_of_ble_eq_true rfl), (Nat.le_of_ble_eq_true rfl)⟩ hS (fun q h => Or.inr (Or.inl h)) (fun H locs hP2 hz hk hS => ?_)
  have hC2 : CW D cI base z0 z1 z2 z5 z6 z7 (n - 1) c2 M2 (remF F2 v) (remF G2 v) SP2 (sendF RF2 (F2 v) (fa F2 n (v + 1))) RC2 H := hP2
  have hC := CW_fr hC hk (fun q h y => hDJ.1 q h y)
  have hO := OP_fr hO hk hDJ.2.2.1
  have hSW := hSW0.behind hbl hAb hS
  refine pv_nesame (tgt := 207) hx hb dL_step_200 (by decide) (rfl) ?_
  refine pv_iconst hx hb dL_step_203 ?_
  refine lv_goto (tgt := 208) hx hb dL_step_204 (by decide) ?_
  refine W.widen (k := 2) (n := 12) (by omega) (by omega) ?_
  exact nw_zret hx hb hr hlocks hS dL_step_208 rfl (Or.inr rfl) ⟨_, _, _, _, _, _, _, _, _, _, _, _, _, _, _, _, hC, hC2, hO, INV_take hI ⟨hv.1, hv.2, rfl⟩, INV_take hJ ⟨hv.1, hv.2, rfl⟩, REL_take hI hJ hR hv, by omega, by omega, by omega⟩
set_option maxHeartbeats 4000000 in
set_option maxRecDepth 100000 in
theorem st_carry {p : Program} {e : Env} {s : State} {m : MethodId} {below : List Frame} {meth : Method} {c : Code} (l : Launch) (hfl : l.stackTraces = false) {D : va_G} {cI : ClassId} {base st : Nat} {Z : Nat → Nat} {x0 x1 x2 x5 x6 x7 z0 z1 z2 z5 z6 z7 pp : Nat} {z : Int}
    (B : bd_At p s m ([.ref x0, .ref z0, .ref pp, .int (iI (z))] : List Value).toArray meth c cL_step 11 (some .boolean) wsL_step RL) (hSW0 : SW D cI base st Z s s.heap) (hDJ : DJ base x0 x1 x2 x5 x6 x7 z0 z1 z2 z5 z6 z7 pp) (hnc1 : va_Nc "java/lang/IllegalArgumentException" "java/lang/IllegalStateException" s) (hnc2 : va_Nc "java/lang/IllegalArgumentException" "java/lang/IndexOutOfBoundsException" s) (hS : va_S (mS x0 x1 x2 x5 x6 x7 z0 z1 z2 z5 z6 z7 pp) s.heap s.heap [])
    {n c1 M1 c2 M2 : Int} {F G SP RF RC F2 G2 SP2 RF2 RC2 PN : Int → Int} (hC : CW D cI base x0 x1 x2 x5 x6 x7 n c1 M1 F G SP RF RC s.heap) (hC2 : CW D cI base z0 z1 z2 z5 z6 z7 n c2 M2 F2 G2 SP2 RF2 RC2 s.heap) (hO : OP D cI pp PN s.heap) (hI : INV n c1 F G RF) (hJ : INV n c2 F2 G2 RF2) (hR : REL n F F2 RF RF2 RC RC2 PN) {k1 k2 : Int} (hn1 : n ≤ c1) (hk1 : c1 ≤ k1 ∧ k1 < 60) (hk2 : c2 ≤ k2 ∧ k2 < 200)
    {kd w : Int} {v : Int} (hv : 0 ≤ v ∧ v < n) (hw : 0 ≤ w ∧ w ≤ 2147483647) (hvb : 0 ≤ w / 64 % n ∧ w / 64 % n < n) {ls : Array Slot} (hl : lv_has ls 11 [(0, .ref x0), (1, .ref z0), (2, .ref pp), (3, .int (iI (z))), (4, .int (iI (n))), (5, .int (iI (kd))), (6, .int (iI (w))), (7, .int (iI (F v)))]) : W p l e ({ frames := 8, cells := 2, slots := 12, locals := 186 } : Room) s m ([.ref x0, .ref z0, .ref pp, .int (iI (z))] : List Value).toArray below meth c s.heap [] 0 0 (MQ below (mu_Q (some (.int (iI 1))) (fun H => RW D cI base x0 x1 x2 x5 x6 x7 z0 z1 z2 z5 z6 z7 pp (k1 + 1) (k2 + 1) H) (mS x0 x1 x2 x5 x6 x7 z0 z1 z2 z5 z6 z7 pp)) ([.ref x0, .ref z0, .ref pp, .int (iI (z))] : List Value).toArray s 2 12 (mS x0 x1 x2 x5 x6 x7 z0 z1 z2 z5 z6 z7 pp)) (F0 m 216 ls []) := by
  obtain ⟨hx, hb, hml, hr, hts, hown, hlocks⟩ := B
  have hK := hSW0.1
  obtain ⟨hn, hcm, hF, hfc, hFi, hG, hs, hRI⟩ := id hI
  obtain ⟨_, hcm2, hF2, hfc2, hFi2, hG2, hs2, hRI2⟩ := id hJ
  have hbl : base ≤ s.heap.size := CW_lt hC
  have hAb : ∀ q, (mS x0 x1 x2 x5 x6 x7 z0 z1 z2 z5 z6 z7 pp) q → base ≤ q := fun q h => by rcases h with h | h | h; exact CW_b hC q h; exact CW_b hC2 q h; exact h ▸ hDJ.2.2.2
  have hSW := hSW0
  have hFv := hF v hv.1 hv.2
  have hfcv := hfc v hv.1 hv.2
  have hF2v := hF2 v hv.1 hv.2
  have hRFX := INV_RF hI
  have hRFZ := INV_RF hJ
  obtain ⟨y, hy⟩ : ∃ y, y = w / 64 % n := ⟨_, rfl⟩
  rw [← hy] at hvb
  refine lv_aload_n hx hb dL_step_216 rfl (lv_at hl 0 rfl) ?_
  refine lv_iload hx hb dL_step_217 (lv_at hl 6 rfl) ?_
  refine pv_bipush hx hb dL_step_219 (by decide +kernel) ?_
  refine pv_idiv hx hb dL_step_221 (by omega) (by omega) ?_
  refine lv_iload hx hb dL_step_222 (lv_at hl 4 rfl) ?_
  refine pv_irem hx hb dL_step_224 (by omega) (by omega) ?_
  rw [show iI ((w / 64) % n) = iI (y) from congrArg iI (hy.symm)]
  have hFy := hF y hvb.1 hvb.2
  have hfcy := hfc y hvb.1 hvb.2
  have hF2y := hF2 y hvb.1 hvb.2
  refine pu_callS (v := F y) (As := [.ref x0, .int (iI (y))]) (rest := []) CP_mv ⟨hx, hb, hml, hown, hts⟩ (f_at l D cI base st Z x0 x1 x2 x5 x6 x7 hI y hvb) (va_cwS 2 hts gL_step_L_folderAt rfl rfl rfl (by decide +kernel) ⟨(Nat.le_of_ble_eq_true rfl), (Nat.le_of_ble_eq_true rfl)⟩) ⟨hSW, hC⟩ rfl rfl hl.1 (Nat.le_of_ble_eq_true rfl) dL_step_225 ⟨(Nat.le_of_ble_eq_true rfl), (Nat.le_of_ble_eq_true rfl)⟩ ?_
  refine lv_istore (lv' := [(8, .int (iI (F y))), (0, .ref x0), (1, .ref z0), (2, .ref pp), (3, .int (iI (z))), (4, .int (iI (n))), (5, .int (iI (kd))), (6, .int (iI (w))), (7, .int (iI (F v)))]) hx hb dL_step_228 hl (by decide) rfl (fun ls hl => ?_)
  refine lv_aload_n hx hb dL_step_230 rfl (lv_at hl 1 rfl) ?_
  refine pv_iconst hx hb dL_step_231 ?_
  refine lv_iload hx hb dL_step_232 (lv_at hl 8 rfl) ?_
  refine lv_iload hx hb dL_step_234 (lv_at hl 0 rfl) ?_
  by_cases hvy : v = y
  · subst hvy
    refine wr_call (As := [.ref x0, .int (iI (3)), .int (iI (F v)), .int (iI (F v))]) (rest := []) DP_mv ⟨hx, hb, hml, hown, hts⟩ (d_carry3 l D cI base st Z x0 x1 x2 x5 x6 x7 hfl hn hF (F v) (by omega) v (PL_k hI hv) hv.1) (vx_cwSW 4 hts gL_step_L_done rfl rfl rfl (by decide +kernel) ⟨(Nat.le_of_ble_eq_true rfl), (Nat.le_of_ble_eq_true rfl)⟩) ⟨⟨hSW, hC⟩, hnc1, hnc2⟩ rfl rfl hl.1 (Nat.le_of_ble_eq_true rfl) dL_step_236 ⟨(Nat.le_of_ble_eq_true rfl), (Nat.le_of_ble_eq_true rfl)⟩ hS (fun q h => Or.inl h) (fun H locs hP2 hz hk hS => ?_)
    have hC : CW D cI base x0 x1 x2 x5 x6 x7 n c1 M1 F G SP RF RC H := hP2
    have hC2 := CW_fr hC2 hk (fun q h y => hDJ.1 q y h)
    have hO := OP_fr hO hk hDJ.2.1
    have hSW := hSW0.behind hbl hAb hS
    refine lv_istore (lv' := [(9, .int (iI (-60))), (8, .int (iI (F v))), (0, .ref x0), (1, .ref z0), (2, .ref pp), (3, .int (iI (z))), (4, .int (iI (n))), (5, .int (iI (kd))), (6, .int (iI (w))), (7, .int (iI (F v)))]) hx hb dL_step_239 hl (by decide) rfl (fun ls hl => ?_)
    refine lv_aload_n hx hb dL_step_241 rfl (lv_at hl 3 rfl) ?_
    refine pv_iconst hx hb dL_step_242 ?_
    refine lv_aload_n hx hb dL_step_243 rfl (lv_at hl 4 rfl) ?_
    refine lv_iload hx hb dL_step_244 (lv_at hl 9 rfl) ?_
    obtain ⟨pf, hAp, hGP⟩ := id hO
    refine pv_ald1 (v := F2 v) hx hb hK hGP (show 0 ≤ F v ∧ F v < 64 by omega) (by decide) ((hAp _ (by omega) (by omega)).trans (congrArg iI ((hR.1 v hv.1 hv.2).symm))) dL_step_246 ?_
    refine lv_aload_n hx hb dL_step_247 rfl (lv_at hl 4 rfl) ?_
    refine lv_iload hx hb dL_step_248 (lv_at hl 1 rfl) ?_
    obtain ⟨pf, hAp, hGP⟩ := id hO
    refine pv_ald1 (v := F2 v) hx hb hK hGP (show 0 ≤ F v ∧ F v < 64 by omega) (by decide) ((hAp _ (by omega) (by omega)).trans (congrArg iI ((hR.1 v hv.1 hv.2).symm))) dL_step_250 ?_
    refine wr_call (As := [.ref z0, .int (iI (3)), .int (iI (F2 v)), .int (iI (F2 v))]) (rest := []) DP_mv ⟨hx, hb, hml, hown, hts⟩ (d_carry3 l D cI base st Z z0 z1 z2 z5 z6 z7 hfl hn hF2 (F2 v) (by omega) v (PL_k hJ hv) hv.1) (vx_cwSW 4 hts gL_step_L_done rfl rfl rfl (by decide +kernel) ⟨(Nat.le_of_ble_eq_true rfl), (Nat.le_of_ble_eq_true rfl)⟩) ⟨⟨hSW, hC2⟩, hnc1, hnc2⟩ rfl rfl hl.1 (Nat.le_of_ble_eq_true rfl) dL_step_251 ⟨(Nat.le_of_ble_eq_true rfl), (Nat.le_of_ble_eq_true rfl)⟩ hS (fun q h => Or.inr (Or.inl h)) (fun H locs hP2 hz hk hS => ?_)
    have hC2 : CW D cI base z0 z1 z2 z5 z6 z7 n c2 M2 F2 G2 SP2 RF2 RC2 H := hP2
    have hC := CW_fr hC hk (fun q h y => hDJ.1 q h y)
    have hO := OP_fr hO hk hDJ.2.2.1
    have hSW := hSW0.behind hbl hAb hS
    refine lv_istore (lv' := [(10, .int (iI (-60))), (9, .int (iI (-60))), (8, .int (iI (F v))), (0, .ref x0), (1, .ref z0), (2, .ref pp), (3, .int (iI (z))), (4, .int (iI (n))), (5, .int (iI (kd))), (6, .int (iI (w))), (7, .int (iI (F v)))]) hx hb dL_step_254 hl (by decide) rfl (fun ls hl => ?_)
    refine lv_iload hx hb dL_step_256 (lv_at hl 1 rfl) ?_
    refine pv_if_ge (tgt := 265) hx hb dL_step_258 (by decide) (by omega) (fun c9 => False.elim (by omega)) (fun _ => ?_)
    refine pv_iconst hx hb dL_step_261 ?_
    refine lv_goto (tgt := 266) hx hb dL_step_262 (by decide) ?_
    refine lv_iload hx hb dL_step_266 (lv_at hl 0 rfl) ?_
    refine pv_if_ge (tgt := 275) hx hb dL_step_268 (by decide) (by omega) (fun c9 => False.elim (by omega)) (fun _ => ?_)
    refine pv_iconst hx hb dL_step_271 ?_
    refine lv_goto (tgt := 276) hx hb dL_step_272 (by decide) ?_
    refine pv_icmp_ne (tgt := 283) hx hb dL_step_276 (by decide) (by omega) (fun c9 => False.elim (by omega)) (fun _ => ?_)
    refine pv_iconst hx hb dL_step_279 ?_
    refine lv_goto (tgt := 284) hx hb dL_step_280 (by decide) ?_
    refine W.widen (k := 2) (n := 12) (by omega) (by omega) ?_
    exact nw_zret hx hb hr hlocks hS dL_step_284 rfl (Or.inr rfl) ⟨_, _, _, _, _, _, _, _, _, _, _, _, _, _, _, _, hC, hC2, hO, hI, hJ, hR, by omega, by omega, by omega⟩
  · obtain ⟨a1, a2, a3, a4, a5, a6, a7⟩ := carry_ok hI hv hvb hvy
    obtain ⟨b1, b2, b3, b4, b5, b6, b7⟩ := carry_ok hJ hv hvb hvy
    have hq := cq_rg hv hvb hvy
    obtain ⟨Ga, dm, SPa, hPT⟩ := PT_ex (remF G v) (n - 1) (cq v y + 1) SP
    obtain ⟨Gb, dn, SPb, hPT2⟩ := PT_ex (remF G2 v) (n - 1) (cq v y + 1) SP2
    have hI2 := INV_carry hI ⟨hv.1, hv.2, rfl⟩ (show 0 ≤ cq v y + 1 ∧ cq v y + 1 ≤ n - 1 by omega) hPT
    have hJ2 := INV_carry hJ ⟨hv.1, hv.2, rfl⟩ (show 0 ≤ cq v y + 1 ∧ cq v y + 1 ≤ n - 1 by omega) hPT2
    have hGq := hI2.2.2.2.2.2.1 (cq v y + 1) (by omega) (by omega)
    have hGq2 := hJ2.2.2.2.2.2.1 (cq v y + 1) (by omega) (by omega)
    refine wr_call (As := [.ref x0, .int (iI (3)), .int (iI (F v)), .int (iI (F y))]) (rest := []) CP_mv ⟨hx, hb, hml, hown, hts⟩ (d_carry l D cI base st Z x0 x1 x2 x5 x6 x7 hn hF hG hs (F v) (by omega) v (PL_k hI hv) hv.1 (F y) (by omega) y (PL_k hI hvb) hvb.1 a1 (cq v y) a2 hq.1 a3 a4 a5 Ga dm SPa hPT a6 a7) (vx_cwSW 4 hts gL_step_L_done rfl rfl rfl (by decide +kernel) ⟨(Nat.le_of_ble_eq_true rfl), (Nat.le_of_ble_eq_true rfl)⟩) ⟨hSW, hC⟩ rfl rfl hl.1 (Nat.le_of_ble_eq_true rfl) dL_step_236 ⟨(Nat.le_of_ble_eq_true rfl), (Nat.le_of_ble_eq_true rfl)⟩ hS (fun q h => Or.inl h) (fun H locs hP2 hz hk hS => ?_)
    have hC : CW D cI base x0 x1 x2 x5 x6 x7 (n - 1 + 1) c1 (M1 + dm) (insF (remF F v) (cq v y + 1) (F v)) Ga SPa RF RC H := hP2
    have hC2 := CW_fr hC2 hk (fun q h y => hDJ.1 q y h)
    have hO := OP_fr hO hk hDJ.2.1
    have hSW := hSW0.behind hbl hAb hS
    refine lv_istore (lv' := [(9, .int (iI (Ga (cq v y + 1)))), (8, .int (iI (F y))), (0, .ref x0), (1, .ref z0), (2, .ref pp), (3, .int (iI (z))), (4, .int (iI (n))), (5, .int (iI (kd))), (6, .int (iI (w))), (7, .int (iI (F v)))]) hx hb dL_step_239 hl (by decide) rfl (fun ls hl => ?_)
    refine lv_aload_n hx hb dL_step_241 rfl (lv_at hl 3 rfl) ?_
    refine pv_iconst hx hb dL_step_242 ?_
    refine lv_aload_n hx hb dL_step_243 rfl (lv_at hl 4 rfl) ?_
    refine lv_iload hx hb dL_step_244 (lv_at hl 9 rfl) ?_
    obtain ⟨pf, hAp, hGP⟩ := id hO
    refine pv_ald1 (v := F2 v) hx hb hK hGP (show 0 ≤ F v ∧ F v < 64 by omega) (by decide) ((hAp _ (by omega) (by omega)).trans (congrArg iI ((hR.1 v hv.1 hv.2).symm))) dL_step_246 ?_
    refine lv_aload_n hx hb dL_step_247 rfl (lv_at hl 4 rfl) ?_
    refine lv_iload hx hb dL_step_248 (lv_at hl 1 rfl) ?_
    obtain ⟨pf, hAp, hGP⟩ := id hO
    refine pv_ald1 (v := F2 y) hx hb hK hGP (show 0 ≤ F y ∧ F y < 64 by omega) (by decide) ((hAp _ (by omega) (by omega)).trans (congrArg iI ((hR.1 y hvb.1 hvb.2).symm))) dL_step_250 ?_
    refine wr_call (As := [.ref z0, .int (iI (3)), .int (iI (F2 v)), .int (iI (F2 y))]) (rest := []) CP_mv ⟨hx, hb, hml, hown, hts⟩ (d_carry l D cI base st Z z0 z1 z2 z5 z6 z7 hn hF2 hG2 hs2 (F2 v) (by omega) v (PL_k hJ hv) hv.1 (F2 y) (by omega) y (PL_k hJ hvb) hvb.1 b1 (cq v y) b2 hq.1 b3 b4 b5 Gb dn SPb hPT2 b6 b7) (vx_cwSW 4 hts gL_step_L_done rfl rfl rfl (by decide +kernel) ⟨(Nat.le_of_ble_eq_true rfl), (Nat.le_of_ble_eq_true rfl)⟩) ⟨hSW, hC2⟩ rfl rfl hl.1 (Nat.le_of_ble_eq_true rfl) dL_step_251 ⟨(Nat.le_of_ble_eq_true rfl), (Nat.le_of_ble_eq_true rfl)⟩ hS (fun q h => Or.inr (Or.inl h)) (fun H locs hP2 hz hk hS => ?_)
    have hC2 : CW D cI base z0 z1 z2 z5 z6 z7 (n - 1 + 1) c2 (M2 + dn) (insF (remF F2 v) (cq v y + 1) (F2 v)) Gb SPb RF2 RC2 H := hP2
    have hC := CW_fr hC hk (fun q h y => hDJ.1 q h y)
    have hO := OP_fr hO hk hDJ.2.2.1
    have hSW := hSW0.behind hbl hAb hS
    refine lv_istore (lv' := [(10, .int (iI (Gb (cq v y + 1)))), (9, .int (iI (Ga (cq v y + 1)))), (8, .int (iI (F y))), (0, .ref x0), (1, .ref z0), (2, .ref pp), (3, .int (iI (z))), (4, .int (iI (n))), (5, .int (iI (kd))), (6, .int (iI (w))), (7, .int (iI (F v)))]) hx hb dL_step_254 hl (by decide) rfl (fun ls hl => ?_)
    refine lv_iload hx hb dL_step_256 (lv_at hl 1 rfl) ?_
    refine pv_if_ge (tgt := 265) hx hb dL_step_258 (by decide) (by omega) (fun _ => ?_) (fun c9 => False.elim (by omega))
    refine pv_iconst hx hb dL_step_265 ?_
    refine lv_iload hx hb dL_step_266 (lv_at hl 0 rfl) ?_
    refine pv_if_ge (tgt := 275) hx hb dL_step_268 (by decide) (by omega) (fun _ => ?_) (fun c9 => False.elim (by omega))
    refine pv_iconst hx hb dL_step_275 ?_
    refine pv_icmp_ne (tgt := 283) hx hb dL_step_276 (by decide) (by omega) (fun c9 => False.elim (by omega)) (fun _ => ?_)
    refine pv_iconst hx hb dL_step_279 ?_
    refine lv_goto (tgt := 284) hx hb dL_step_280 (by decide) ?_
    rw [show n - 1 + 1 = n by omega] at hC hC2
    refine W.widen (k := 2) (n := 12) (by omega) (by omega) ?_
    exact nw_zret hx hb hr hlocks hS dL_step_284 rfl (Or.inr rfl) ⟨_, _, _, _, _, _, _, _, _, _, _, _, _, _, _, _, hC, hC2, hO, hI2, hJ2, REL_carry hR hv (show 0 ≤ cq v y + 1 ∧ cq v y + 1 ≤ n - 1 by omega), by omega, by omega, by omega⟩
set_option maxHeartbeats 4000000 in
set_option maxRecDepth 100000 in
theorem st_seat {p : Program} {e : Env} {s : State} {m : MethodId} {below : List Frame} {meth : Method} {c : Code} (l : Launch) (hfl : l.stackTraces = false) {D : va_G} {cI : ClassId} {base st : Nat} {Z : Nat → Nat} {x0 x1 x2 x5 x6 x7 z0 z1 z2 z5 z6 z7 pp : Nat} {z : Int}
    (B : bd_At p s m ([.ref x0, .ref z0, .ref pp, .int (iI (z))] : List Value).toArray meth c cL_step 11 (some .boolean) wsL_step RL) (hSW0 : SW D cI base st Z s s.heap) (hDJ : DJ base x0 x1 x2 x5 x6 x7 z0 z1 z2 z5 z6 z7 pp) (hnc1 : va_Nc "java/lang/IllegalArgumentException" "java/lang/IllegalStateException" s) (hnc2 : va_Nc "java/lang/IllegalArgumentException" "java/lang/IndexOutOfBoundsException" s) (hS : va_S (mS x0 x1 x2 x5 x6 x7 z0 z1 z2 z5 z6 z7 pp) s.heap s.heap [])
    {n c1 M1 c2 M2 : Int} {F G SP RF RC F2 G2 SP2 RF2 RC2 PN : Int → Int} (hC : CW D cI base x0 x1 x2 x5 x6 x7 n c1 M1 F G SP RF RC s.heap) (hC2 : CW D cI base z0 z1 z2 z5 z6 z7 n c2 M2 F2 G2 SP2 RF2 RC2 s.heap) (hO : OP D cI pp PN s.heap) (hI : INV n c1 F G RF) (hJ : INV n c2 F2 G2 RF2) (hR : REL n F F2 RF RF2 RC RC2 PN) {k1 k2 : Int} (hn1 : n ≤ c1) (hk1 : c1 ≤ k1 ∧ k1 < 60) (hk2 : c2 ≤ k2 ∧ k2 < 200)
    {kd w : Int} {v : Int} (hv : 0 ≤ v ∧ v < n) (hw : 0 ≤ w ∧ w ≤ 2147483647) {ls : Array Slot} (hl : lv_has ls 11 [(0, .ref x0), (1, .ref z0), (2, .ref pp), (3, .int (iI (z))), (4, .int (iI (n))), (5, .int (iI (kd))), (6, .int (iI (w))), (7, .int (iI (F v)))]) : W p l e ({ frames := 8, cells := 2, slots := 12, locals := 186 } : Room) s m ([.ref x0, .ref z0, .ref pp, .int (iI (z))] : List Value).toArray below meth c s.heap [] 0 0 (MQ below (mu_Q (some (.int (iI 1))) (fun H => RW D cI base x0 x1 x2 x5 x6 x7 z0 z1 z2 z5 z6 z7 pp (k1 + 1) (k2 + 1) H) (mS x0 x1 x2 x5 x6 x7 z0 z1 z2 z5 z6 z7 pp)) ([.ref x0, .ref z0, .ref pp, .int (iI (z))] : List Value).toArray s 2 12 (mS x0 x1 x2 x5 x6 x7 z0 z1 z2 z5 z6 z7 pp)) (F0 m 292 ls []) := by
  obtain ⟨hx, hb, hml, hr, hts, hown, hlocks⟩ := B
  have hK := hSW0.1
  obtain ⟨hn, hcm, hF, hfc, hFi, hG, hs, hRI⟩ := id hI
  obtain ⟨_, hcm2, hF2, hfc2, hFi2, hG2, hs2, hRI2⟩ := id hJ
  have hbl : base ≤ s.heap.size := CW_lt hC
  have hAb : ∀ q, (mS x0 x1 x2 x5 x6 x7 z0 z1 z2 z5 z6 z7 pp) q → base ≤ q := fun q h => by rcases h with h | h | h; exact CW_b hC q h; exact CW_b hC2 q h; exact h ▸ hDJ.2.2.2
  have hSW := hSW0
  have hFv := hF v hv.1 hv.2
  have hfcv := hfc v hv.1 hv.2
  have hF2v := hF2 v hv.1 hv.2
  have hRFX := INV_RF hI
  have hRFZ := INV_RF hJ
  obtain ⟨u, hu⟩ : ∃ u, u = w % 4 := ⟨_, rfl⟩
  refine lv_aload_n hx hb dL_step_292 rfl (lv_at hl 0 rfl) ?_
  refine pv_iconst hx hb dL_step_293 ?_
  refine lv_iload hx hb dL_step_294 (lv_at hl 7 rfl) ?_
  refine lv_iload hx hb dL_step_296 (lv_at hl 6 rfl) ?_
  refine pv_iconst hx hb dL_step_298 ?_
  refine pv_irem hx hb dL_step_299 (by omega) (by omega) ?_
  rw [show iI (w % 4) = iI (u) from congrArg iI (hu.symm)]
  refine wr_call (As := [.ref x0, .int (iI (4)), .int (iI (F v)), .int (iI (u))]) (rest := []) CP_mv ⟨hx, hb, hml, hown, hts⟩ (d_seat l D cI base st Z x0 x1 x2 x5 x6 x7 hn hF hRFX u (by omega) (F v) (by omega) v (PL_k hI hv) hv.1) (vx_cwSW 4 hts gL_step_L_done rfl rfl rfl (by decide +kernel) ⟨(Nat.le_of_ble_eq_true rfl), (Nat.le_of_ble_eq_true rfl)⟩) ⟨hSW, hC⟩ rfl rfl hl.1 (Nat.le_of_ble_eq_true rfl) dL_step_300 ⟨(Nat.le_of_ble_eq_true rfl), (Nat.le_of_ble_eq_true rfl)⟩ hS (fun q h => Or.inl h) (fun H locs hP2 hz hk hS => ?_)
  have hC : CW D cI base x0 x1 x2 x5 x6 x7 n c1 M1 F G SP (uI RF u (F v)) RC H := hP2
  have hC2 := CW_fr hC2 hk (fun q h y => hDJ.1 q y h)
  have hO := OP_fr hO hk hDJ.2.1
  have hSW := hSW0.behind hbl hAb hS
  refine lv_aload_n hx hb dL_step_303 rfl (lv_at hl 1 rfl) ?_
  refine pv_iconst hx hb dL_step_304 ?_
  refine lv_aload_n hx hb dL_step_305 rfl (lv_at hl 2 rfl) ?_
  refine lv_iload hx hb dL_step_306 (lv_at hl 7 rfl) ?_
  obtain ⟨pf, hAp, hGP⟩ := id hO
  refine pv_ald1 (v := F2 v) hx hb hK hGP (show 0 ≤ F v ∧ F v < 64 by omega) (by decide) ((hAp _ (by omega) (by omega)).trans (congrArg iI ((hR.1 v hv.1 hv.2).symm))) dL_step_308 ?_
  refine lv_iload hx hb dL_step_309 (lv_at hl 6 rfl) ?_
  refine pv_iconst hx hb dL_step_311 ?_
  refine pv_irem hx hb dL_step_312 (by omega) (by omega) ?_
  rw [show iI (w % 4) = iI (u) from congrArg iI (hu.symm)]
  refine wr_call (As := [.ref z0, .int (iI (4)), .int (iI (F2 v)), .int (iI (u))]) (rest := [.int (iI (cn (fun k => decide (uI RF u (F v) k = F v)) 4))]) CP_mv ⟨hx, hb, hml, hown, hts⟩ (d_seat l D cI base st Z z0 z1 z2 z5 z6 z7 hn hF2 hRFZ u (by omega) (F2 v) (by omega) v (PL_k hJ hv) hv.1) (vx_cwSW 4 hts gL_step_L_done rfl rfl rfl (by decide +kernel) ⟨(Nat.le_of_ble_eq_true rfl), (Nat.le_of_ble_eq_true rfl)⟩) ⟨hSW, hC2⟩ rfl rfl hl.1 (Nat.le_of_ble_eq_true rfl) dL_step_313 ⟨(Nat.le_of_ble_eq_true rfl), (Nat.le_of_ble_eq_true rfl)⟩ hS (fun q h => Or.inr (Or.inl h)) (fun H locs hP2 hz hk hS => ?_)
  have hC2 : CW D cI base z0 z1 z2 z5 z6 z7 n c2 M2 F2 G2 SP2 (uI RF2 u (F2 v)) RC2 H := hP2
  have hC := CW_fr hC hk (fun q h y => hDJ.1 q h y)
  have hO := OP_fr hO hk hDJ.2.2.1
  have hSW := hSW0.behind hbl hAb hS
  refine pv_nesame (tgt := 323) hx hb dL_step_316 (by decide) ((seat_cn hI hJ hR hv).symm) ?_
  refine pv_iconst hx hb dL_step_319 ?_
  refine lv_goto (tgt := 324) hx hb dL_step_320 (by decide) ?_
  refine W.widen (k := 2) (n := 12) (by omega) (by omega) ?_
  exact nw_zret hx hb hr hlocks hS dL_step_324 rfl (Or.inr rfl) ⟨_, _, _, _, _, _, _, _, _, _, _, _, _, _, _, _, hC, hC2, hO, INV_seat hI ⟨hv.1, hv.2, rfl⟩, INV_seat hJ ⟨hv.1, hv.2, rfl⟩, REL_seat hI hJ hR hv, by omega, by omega, by omega⟩
set_option maxHeartbeats 4000000 in
set_option maxRecDepth 100000 in
theorem st_day {p : Program} {e : Env} {s : State} {m : MethodId} {below : List Frame} {meth : Method} {c : Code} (l : Launch) (hfl : l.stackTraces = false) {D : va_G} {cI : ClassId} {base st : Nat} {Z : Nat → Nat} {x0 x1 x2 x5 x6 x7 z0 z1 z2 z5 z6 z7 pp : Nat} {z : Int}
    (B : bd_At p s m ([.ref x0, .ref z0, .ref pp, .int (iI (z))] : List Value).toArray meth c cL_step 11 (some .boolean) wsL_step RL) (hSW0 : SW D cI base st Z s s.heap) (hDJ : DJ base x0 x1 x2 x5 x6 x7 z0 z1 z2 z5 z6 z7 pp) (hnc1 : va_Nc "java/lang/IllegalArgumentException" "java/lang/IllegalStateException" s) (hnc2 : va_Nc "java/lang/IllegalArgumentException" "java/lang/IndexOutOfBoundsException" s) (hS : va_S (mS x0 x1 x2 x5 x6 x7 z0 z1 z2 z5 z6 z7 pp) s.heap s.heap [])
    {n c1 M1 c2 M2 : Int} {F G SP RF RC F2 G2 SP2 RF2 RC2 PN : Int → Int} (hC : CW D cI base x0 x1 x2 x5 x6 x7 n c1 M1 F G SP RF RC s.heap) (hC2 : CW D cI base z0 z1 z2 z5 z6 z7 n c2 M2 F2 G2 SP2 RF2 RC2 s.heap) (hO : OP D cI pp PN s.heap) (hI : INV n c1 F G RF) (hJ : INV n c2 F2 G2 RF2) (hR : REL n F F2 RF RF2 RC RC2 PN) {k1 k2 : Int} (hn1 : n ≤ c1) (hk1 : c1 ≤ k1 ∧ k1 < 60) (hk2 : c2 ≤ k2 ∧ k2 < 200)
    {kd w : Int}  {fo : Int} {ls : Array Slot} (hl : lv_has ls 11 [(0, .ref x0), (1, .ref z0), (2, .ref pp), (3, .int (iI (z))), (4, .int (iI (n))), (5, .int (iI (kd))), (6, .int (iI (w))), (7, .int (iI (fo)))]) : W p l e ({ frames := 8, cells := 2, slots := 12, locals := 186 } : Room) s m ([.ref x0, .ref z0, .ref pp, .int (iI (z))] : List Value).toArray below meth c s.heap [] 0 0 (MQ below (mu_Q (some (.int (iI 1))) (fun H => RW D cI base x0 x1 x2 x5 x6 x7 z0 z1 z2 z5 z6 z7 pp (k1 + 1) (k2 + 1) H) (mS x0 x1 x2 x5 x6 x7 z0 z1 z2 z5 z6 z7 pp)) ([.ref x0, .ref z0, .ref pp, .int (iI (z))] : List Value).toArray s 2 12 (mS x0 x1 x2 x5 x6 x7 z0 z1 z2 z5 z6 z7 pp)) (F0 m 325 ls []) := by
  obtain ⟨hx, hb, hml, hr, hts, hown, hlocks⟩ := B
  have hK := hSW0.1
  obtain ⟨hn, hcm, hF, hfc, hFi, hG, hs, hRI⟩ := id hI
  obtain ⟨_, hcm2, hF2, hfc2, hFi2, hG2, hs2, hRI2⟩ := id hJ
  have hbl : base ≤ s.heap.size := CW_lt hC
  have hAb : ∀ q, (mS x0 x1 x2 x5 x6 x7 z0 z1 z2 z5 z6 z7 pp) q → base ≤ q := fun q h => by rcases h with h | h | h; exact CW_b hC q h; exact CW_b hC2 q h; exact h ▸ hDJ.2.2.2
  have hSW := hSW0
  refine lv_aload_n hx hb dL_step_325 rfl (lv_at hl 0 rfl) ?_
  refine mu_callV (As := []) (rest := []) CP_mv ⟨hx, hb, hml, hown, hts⟩ (c_passDay l D cI base st Z x0 x1 x2 x5 x6 x7 hn hF (INV_RF hI)) (cwV 0 hts gL_step_X0_passDay rfl rfl rfl (by decide +kernel) ⟨(Nat.le_of_ble_eq_true rfl), (Nat.le_of_ble_eq_true rfl)⟩) ⟨hSW, hC⟩ (CP_rc ⟨hSW, hC⟩) rfl rfl hl.1 (Nat.le_of_ble_eq_true rfl) dL_step_326 ⟨(Nat.le_of_ble_eq_true rfl), (Nat.le_of_ble_eq_true rfl)⟩ hS (fun q h => Or.inl h) (fun H locs hP2 hz hk hS => ?_)
  have hC : CW D cI base x0 x1 x2 x5 x6 x7 n c1 M1 F G SP (pdF F n RF) (pdC F n RF RC) H := hP2
  have hC2 := CW_fr hC2 hk (fun q h y => hDJ.1 q y h)
  have hO := OP_fr hO hk hDJ.2.1
  have hSW := hSW0.behind hbl hAb hS
  refine lv_aload_n hx hb dL_step_329 rfl (lv_at hl 1 rfl) ?_
  refine mu_callV (As := []) (rest := [.int (iI (cn (fun j => decide (pdF F n RF j ≠ -1)) 4))]) CP_mv ⟨hx, hb, hml, hown, hts⟩ (c_passDay l D cI base st Z z0 z1 z2 z5 z6 z7 hn hF2 (INV_RF hJ)) (cwV 0 hts gL_step_X0_passDay rfl rfl rfl (by decide +kernel) ⟨(Nat.le_of_ble_eq_true rfl), (Nat.le_of_ble_eq_true rfl)⟩) ⟨hSW, hC2⟩ (CP_rc ⟨hSW, hC2⟩) rfl rfl hl.1 (Nat.le_of_ble_eq_true rfl) dL_step_330 ⟨(Nat.le_of_ble_eq_true rfl), (Nat.le_of_ble_eq_true rfl)⟩ hS (fun q h => Or.inr (Or.inl h)) (fun H locs hP2 hz hk hS => ?_)
  have hC2 : CW D cI base z0 z1 z2 z5 z6 z7 n c2 M2 F2 G2 SP2 (pdF F2 n RF2) (pdC F2 n RF2 RC2) H := hP2
  have hC := CW_fr hC hk (fun q h y => hDJ.1 q h y)
  have hO := OP_fr hO hk hDJ.2.2.1
  have hSW := hSW0.behind hbl hAb hS
  refine pv_nesame (tgt := 340) hx hb dL_step_333 (by decide) ((day_cn hI hJ hR).symm) ?_
  refine pv_iconst hx hb dL_step_336 ?_
  refine lv_goto (tgt := 341) hx hb dL_step_337 (by decide) ?_
  refine W.widen (k := 2) (n := 12) (by omega) (by omega) ?_
  exact nw_zret hx hb hr hlocks hS dL_step_341 rfl (Or.inr rfl) ⟨_, _, _, _, _, _, _, _, _, _, _, _, _, _, _, _, hC, hC2, hO, INV_day hI, INV_day hJ, REL_day hI hJ hR, by omega, by omega, by omega⟩
set_option maxHeartbeats 4000000 in
set_option maxRecDepth 100000 in
theorem s_tep (l : Launch) (hfl : l.stackTraces = false) (D : va_G) (cI : ClassId) (base st : Nat) (Z : Nat → Nat) (x0 x1 x2 x5 x6 x7 z0 z1 z2 z5 z6 z7 pp : Nat) (k1 k2 : Int) (hk60 : k1 < 60) (hk200 : k2 < 200) (z : Int) (hz : 0 ≤ z ∧ z ≤ 2147483647) : nw_M l yL_step wsL_step ({ frames := 8, cells := 2, slots := 12, locals := 186 } : Room) [.ref x0, .ref z0, .ref pp, .int (iI (z))] (LPW D cI base st Z x0 x1 x2 x5 x6 x7 z0 z1 z2 z5 z6 z7 pp k1 k2) (some (.int (iI 1))) (fun H => RW D cI base x0 x1 x2 x5 x6 x7 z0 z1 z2 z5 z6 z7 pp (k1 + 1) (k2 + 1) H) (mS x0 x1 x2 x5 x6 x7 z0 z1 z2 z5 z6 z7 pp) 2 12 := by
  refine nw_of (cc := cL_step) (maxL := 11) (ret := (some .boolean)) (own := RL) (by decide) rfl rfl (Nat.le_of_ble_eq_true rfl) ?_
  intro p e s m below meth c ls B hP0 hl hS
  obtain ⟨hx, hb, hml, hr, hts, hown, hlocks⟩ := B
  have hl : lv_has ls 11 [(0, .ref x0), (1, .ref z0), (2, .ref pp), (3, .int (iI (z)))] := hl
  obtain ⟨hSW0, ⟨n, c1, M1, F, G, SP, RF, RC, c2, M2, F2, G2, SP2, RF2, RC2, PN, hC, hC2, hO, hI, hJ, hR, hn1, hk1, hk2⟩, hDJ, hnc1, hnc2⟩ := hP0
  have hSW := hSW0
  have hk1 : c1 ≤ k1 ∧ k1 < 60 := ⟨hk1, hk60⟩
  have hk2 : c2 ≤ k2 ∧ k2 < 200 := ⟨hk2, hk200⟩
  have hK := hSW.1
  obtain ⟨hn, hcm, hF, hfc, hFi, hG, hs, hRI⟩ := id hI
  refine lv_aload_n hx hb dL_step_0 rfl (lv_at hl 0 rfl) ?_
  refine pu_callV (v := n) (As := []) (rest := []) CP_mv ⟨hx, hb, hml, hown, hts⟩ (c_size l D cI base st Z x0 x1 x2 x5 x6 x7 hn) (cwV 0 hts gL_step_X0_size rfl rfl rfl (by decide +kernel) ⟨(Nat.le_of_ble_eq_true rfl), (Nat.le_of_ble_eq_true rfl)⟩) ⟨hSW, hC⟩ (CP_rc ⟨hSW, hC⟩) rfl rfl hl.1 (Nat.le_of_ble_eq_true rfl) dL_step_1 ⟨Nat.zero_le _, Nat.zero_le _⟩ ?_
  refine lv_istore (lv' := [(4, .int (iI (n))), (0, .ref x0), (1, .ref z0), (2, .ref pp), (3, .int (iI (z)))]) hx hb dL_step_4 hl (by decide) rfl (fun ls hl => ?_)
  refine lv_iload_n hx hb dL_step_6 rfl (lv_at hl 4 rfl) ?_
  refine pv_bipush hx hb dL_step_7 (by decide +kernel) ?_
  refine pv_irem hx hb dL_step_9 (by omega) (by omega) ?_
  obtain ⟨kd, hkd⟩ : ∃ y, y = z % 12 := ⟨_, rfl⟩
  obtain ⟨w, hw⟩ : ∃ y, y = z / 12 := ⟨_, rfl⟩
  rw [show iI (z % 12) = iI (kd) from congrArg iI (hkd.symm)]
  refine lv_istore (lv' := [(5, .int (iI (kd))), (4, .int (iI (n))), (0, .ref x0), (1, .ref z0), (2, .ref pp), (3, .int (iI (z)))]) hx hb dL_step_10 hl (by decide) rfl (fun ls hl => ?_)
  refine lv_iload_n hx hb dL_step_12 rfl (lv_at hl 5 rfl) ?_
  refine pv_bipush hx hb dL_step_13 (by decide +kernel) ?_
  refine pv_idiv hx hb dL_step_15 (by omega) (by omega) ?_
  rw [show iI (z / 12) = iI (w) from congrArg iI (hw.symm)]
  refine lv_istore (lv' := [(6, .int (iI (w))), (5, .int (iI (kd))), (4, .int (iI (n))), (0, .ref x0), (1, .ref z0), (2, .ref pp), (3, .int (iI (z)))]) hx hb dL_step_16 hl (by decide) rfl (fun ls hl => ?_)
  refine lv_iload hx hb dL_step_18 (lv_at hl 2 rfl) ?_
  by_cases hn0 : n = 0
  · skip
    refine pv_if_ne (tgt := 27) hx hb dL_step_20 (by decide) (by omega) (fun c9 => False.elim (by omega)) (fun _ => ?_)
    refine pv_iconst hx hb dL_step_23 ?_
    refine lv_goto (tgt := 36) hx hb dL_step_24 (by decide) ?_
    refine lv_istore (lv' := [(7, .int (iI (-1))), (6, .int (iI (w))), (5, .int (iI (kd))), (4, .int (iI (n))), (0, .ref x0), (1, .ref z0), (2, .ref pp), (3, .int (iI (z)))]) hx hb dL_step_36 hl (by decide) rfl (fun ls hl => ?_)
    refine lv_iload hx hb dL_step_38 (lv_at hl 3 rfl) ?_
    refine pv_if_eq (tgt := 48) hx hb dL_step_40 (by decide) (by omega) (fun _ => ?_) (fun c9 => False.elim (by omega))
    exact st_first l hfl ⟨hx, hb, hml, hr, hts, hown, hlocks⟩ hSW0 hDJ hnc1 hnc2 hS hC hC2 hO hI hJ hR hn1 hk1 hk2 (lv_sub hl [4, 5, 6, 7, 3, 2, 1, 0] rfl)
  · have hvr : 0 ≤ w % n ∧ w % n < n := ⟨Int.emod_nonneg _ hn0, Int.emod_lt_of_pos _ (by omega)⟩
    refine pv_if_ne (tgt := 27) hx hb dL_step_20 (by decide) (by omega) (fun _ => ?_) (fun c9 => False.elim (by omega))
    refine lv_aload_n hx hb dL_step_27 rfl (lv_at hl 3 rfl) ?_
    refine lv_iload hx hb dL_step_28 (lv_at hl 0 rfl) ?_
    refine lv_iload hx hb dL_step_30 (lv_at hl 2 rfl) ?_
    refine pv_irem hx hb dL_step_32 (by omega) (by omega) ?_
    obtain ⟨v, hv9⟩ : ∃ y, y = w % n := ⟨_, rfl⟩
    rw [← hv9] at hvr
    rw [show iI (w % n) = iI (v) from congrArg iI (hv9.symm)]
    refine pu_callS (v := F v) (As := [.ref x0, .int (iI (v))]) (rest := []) CP_mv ⟨hx, hb, hml, hown, hts⟩ (f_at l D cI base st Z x0 x1 x2 x5 x6 x7 hI v hvr) (va_cwS 2 hts gL_step_L_folderAt rfl rfl rfl (by decide +kernel) ⟨(Nat.le_of_ble_eq_true rfl), (Nat.le_of_ble_eq_true rfl)⟩) ⟨hSW, hC⟩ rfl rfl hl.1 (Nat.le_of_ble_eq_true rfl) dL_step_33 ⟨(Nat.le_of_ble_eq_true rfl), (Nat.le_of_ble_eq_true rfl)⟩ ?_
    refine lv_istore (lv' := [(7, .int (iI (F v))), (6, .int (iI (w))), (5, .int (iI (kd))), (4, .int (iI (n))), (0, .ref x0), (1, .ref z0), (2, .ref pp), (3, .int (iI (z)))]) hx hb dL_step_36 hl (by decide) rfl (fun ls hl => ?_)
    refine lv_iload hx hb dL_step_38 (lv_at hl 3 rfl) ?_
    refine pv_if_eq (tgt := 48) hx hb dL_step_40 (by decide) (by omega) (fun c9 => False.elim (by omega)) (fun _ => ?_)
    refine lv_iload hx hb dL_step_43 (lv_at hl 2 rfl) ?_
    by_cases hc : kd = 0
    · skip
      refine pv_if_ne (tgt := 106) hx hb dL_step_45 (by decide) (by omega) (fun c9 => False.elim (by omega)) (fun _ => ?_)
      exact st_first l hfl ⟨hx, hb, hml, hr, hts, hown, hlocks⟩ hSW0 hDJ hnc1 hnc2 hS hC hC2 hO hI hJ hR hn1 hk1 hk2 (lv_sub hl [4, 5, 6, 7, 3, 2, 1, 0] rfl)
    refine pv_if_ne (tgt := 106) hx hb dL_step_45 (by decide) (by omega) (fun _ => ?_) (fun c9 => False.elim (by omega))
    refine lv_iload hx hb dL_step_106 (lv_at hl 2 rfl) ?_
    refine pv_bipush hx hb dL_step_108 (by decide +kernel) ?_
    by_cases hc7 : kd < 7
    · skip
      refine pv_icmp_ge (tgt := 175) hx hb dL_step_110 (by decide) (by omega) (fun c9 => False.elim (by omega)) (fun _ => ?_)
      exact st_behind l hfl ⟨hx, hb, hml, hr, hts, hown, hlocks⟩ hSW0 hDJ hnc1 hnc2 hS hC hC2 hO hI hJ hR hn1 hk1 hk2 hvr (lv_sub hl [4, 5, 6, 7, 3, 2, 1, 0] rfl)
    refine pv_icmp_ge (tgt := 175) hx hb dL_step_110 (by decide) (by omega) (fun _ => ?_) (fun c9 => False.elim (by omega))
    refine lv_iload hx hb dL_step_175 (lv_at hl 2 rfl) ?_
    refine pv_bipush hx hb dL_step_177 (by decide +kernel) ?_
    by_cases hc8 : kd = 7
    · skip
      refine pv_icmp_ne (tgt := 209) hx hb dL_step_179 (by decide) (by omega) (fun c9 => False.elim (by omega)) (fun _ => ?_)
      exact st_take l hfl ⟨hx, hb, hml, hr, hts, hown, hlocks⟩ hSW0 hDJ hnc1 hnc2 hS hC hC2 hO hI hJ hR hn1 hk1 hk2 hvr (lv_sub hl [4, 5, 6, 7, 3, 2, 1, 0] rfl)
    refine pv_icmp_ne (tgt := 209) hx hb dL_step_179 (by decide) (by omega) (fun _ => ?_) (fun c9 => False.elim (by omega))
    refine lv_iload hx hb dL_step_209 (lv_at hl 2 rfl) ?_
    refine pv_bipush hx hb dL_step_211 (by decide +kernel) ?_
    by_cases hc9 : kd = 8
    · skip
      refine pv_icmp_ne (tgt := 285) hx hb dL_step_213 (by decide) (by omega) (fun c9 => False.elim (by omega)) (fun _ => ?_)
      exact st_carry l hfl ⟨hx, hb, hml, hr, hts, hown, hlocks⟩ hSW0 hDJ hnc1 hnc2 hS hC hC2 hO hI hJ hR hn1 hk1 hk2 hvr (by omega) ⟨Int.emod_nonneg _ hn0, Int.emod_lt_of_pos _ (by omega)⟩ (lv_sub hl [4, 5, 6, 7, 3, 2, 1, 0] rfl)
    refine pv_icmp_ne (tgt := 285) hx hb dL_step_213 (by decide) (by omega) (fun _ => ?_) (fun c9 => False.elim (by omega))
    refine lv_iload hx hb dL_step_285 (lv_at hl 2 rfl) ?_
    refine pv_bipush hx hb dL_step_287 (by decide +kernel) ?_
    by_cases hc10 : kd = 9
    · skip
      refine pv_icmp_ne (tgt := 325) hx hb dL_step_289 (by decide) (by omega) (fun c9 => False.elim (by omega)) (fun _ => ?_)
      exact st_seat l hfl ⟨hx, hb, hml, hr, hts, hown, hlocks⟩ hSW0 hDJ hnc1 hnc2 hS hC hC2 hO hI hJ hR hn1 hk1 hk2 hvr (by omega) (lv_sub hl [4, 5, 6, 7, 3, 2, 1, 0] rfl)
    refine pv_icmp_ne (tgt := 325) hx hb dL_step_289 (by decide) (by omega) (fun _ => ?_) (fun c9 => False.elim (by omega))
    exact st_day l hfl ⟨hx, hb, hml, hr, hts, hown, hlocks⟩ hSW0 hDJ hnc1 hnc2 hS hC hC2 hO hI hJ hR hn1 hk1 hk2 (lv_sub hl [4, 5, 6, 7, 3, 2, 1, 0] rfl)
end
section
theorem PL_kx {n came x : Int} {F G RF : Int → Int} (h : INV n came F G RF) {k : Int} (hk : 0 ≤ k ∧ k < n) (e : F k = x) : PL F n x k := e ▸ PL_k h hk
def LPS (D : va_G) (cI : ClassId) (base st : Nat) (Z : Nat → Nat) (x0 x1 x2 x5 x6 x7 z0 z1 z2 z5 z6 z7 pp : Nat) (k1 k2 : Int) (sz : Nat) : State → Heap → Prop := fun U H => LPW D cI base st Z x0 x1 x2 x5 x6 x7 z0 z1 z2 z5 z6 z7 pp k1 k2 U H ∧ H.size = sz
theorem LPS_mv {D : va_G} {cI : ClassId} {base st : Nat} {Z : Nat → Nat} {x0 x1 x2 x5 x6 x7 z0 z1 z2 z5 z6 z7 pp : Nat} {k1 k2 : Int} {sz : Nat} : mvb (LPS D cI base st Z x0 x1 x2 x5 x6 x7 z0 z1 z2 z5 z6 z7 pp k1 k2 sz) := fun _ _ _ hW h => ⟨LPW_mv _ _ _ hW h.1, h.2⟩
theorem RW_mono {D : va_G} {cI : ClassId} {base x0 x1 x2 x5 x6 x7 z0 z1 z2 z5 z6 z7 pp : Nat} {k1 k2 k3 k4 : Int} {H : Heap} (h : RW D cI base x0 x1 x2 x5 x6 x7 z0 z1 z2 z5 z6 z7 pp k1 k2 H) (h1 : k1 ≤ k3) (h2 : k2 ≤ k4) : RW D cI base x0 x1 x2 x5 x6 x7 z0 z1 z2 z5 z6 z7 pp k3 k4 H := by
  obtain ⟨n, c1, M1, F, G, SP, RF, RC, c2, M2, F2, G2, SP2, RF2, RC2, PN, hC, hC2, hO, hI, hJ, hR, hn1, hk1, hk2⟩ := h
  exact ⟨n, c1, M1, F, G, SP, RF, RC, c2, M2, F2, G2, SP2, RF2, RC2, PN, hC, hC2, hO, hI, hJ, hR, hn1, Int.le_trans hk1 h1, Int.le_trans hk2 h2⟩
set_option maxHeartbeats 4000000 in
set_option maxRecDepth 100000 in
theorem p_assing (l : Launch) (D : va_G) (cI : ClassId) (base st : Nat) (Z : Nat → Nat) (x0 x1 x2 x5 x6 x7 z0 z1 z2 z5 z6 z7 pp : Nat) (k1 k2 : Int) (sz : Nat) (hk200 : k2 ≤ 190) (z : Int) (hz : 0 ≤ z ∧ z ≤ 2147483647) : nw_M l yL_passing wsL_passing ({ frames := 8, cells := 1, slots := 2, locals := 186 } : Room) [.ref z0, .int (iI (z))] (LPS D cI base st Z x0 x1 x2 x5 x6 x7 z0 z1 z2 z5 z6 z7 pp k1 k2 sz) (some (.int (iI 1))) (fun H => RW D cI base x0 x1 x2 x5 x6 x7 z0 z1 z2 z5 z6 z7 pp k1 (k2 + 2) H) (fun q => mC z0 z1 z2 z5 z6 z7 q ∨ sz ≤ q) 1 2 := by
  refine nw_of (cc := cL_passing) (maxL := 7) (ret := (some .boolean)) (own := RL) (by decide) rfl rfl (Nat.le_of_ble_eq_true rfl) ?_
  intro p e s m below meth c ls B hP0 hl hS
  obtain ⟨hx, hb, hml, hr, hts, hown, hlocks⟩ := B
  have hl : lv_has ls 7 [(0, .ref z0), (1, .int (iI (z)))] := hl
  obtain ⟨⟨hSW0, ⟨n, c1, M1, F, G, SP, RF, RC, c2, M2, F2, G2, SP2, RF2, RC2, PN, hC, hC2, hO, hI, hJ, hR, hn1, hk1, hk2⟩, hDJ, hnc1, hnc2⟩, hsz⟩ := hP0
  subst hsz
  have hSW := hSW0
  have hK := hSW.1
  obtain ⟨hn, hcm2, hF2, hfc2, hFi2, hG2, hs2, hRI2⟩ := id hJ
  have hbl : base ≤ s.heap.size := CW_lt hC
  have hAb : ∀ q, (fun q : Nat => mC z0 z1 z2 z5 z6 z7 q ∨ s.heap.size ≤ q) q → base ≤ q := fun q h => by rcases h with h | h; exact CW_b hC2 q h; exact Nat.le_trans hbl h
  refine lv_aload_n hx hb dL_passing_0 rfl (lv_at hl 0 rfl) ?_
  refine pu_callV (v := n) (As := []) (rest := []) CP_mv ⟨hx, hb, hml, hown, hts⟩ (c_size l D cI base st Z z0 z1 z2 z5 z6 z7 hn) (cwV 0 hts gL_passing_X0_size rfl rfl rfl (by decide +kernel) ⟨(Nat.le_of_ble_eq_true rfl), (Nat.le_of_ble_eq_true rfl)⟩) ⟨hSW, hC2⟩ (CP_rc ⟨hSW, hC2⟩) rfl rfl hl.1 (Nat.le_of_ble_eq_true rfl) dL_passing_1 ⟨Nat.zero_le _, Nat.zero_le _⟩ ?_
  refine lv_istore_n (lv' := [(2, .int (iI (n))), (0, .ref z0), (1, .int (iI (z)))]) hx hb dL_passing_4 rfl hl (by decide) rfl (fun ls hl => ?_)
  refine pv_iconst hx hb dL_passing_5 ?_
  refine lv_iload_n hx hb dL_passing_6 rfl (lv_at hl 2 rfl) ?_
  refine pv_iconst hx hb dL_passing_7 ?_
  refine pv_irem hx hb dL_passing_8 (by omega) (by omega) ?_
  by_cases hz2 : z % 2 = 0
  · skip
    rw [show iI (z % 2) = iI (0) from congrArg iI (by omega)]
    refine pv_iadd hx hb dL_passing_9 ?_
    rw [show iI (1 + 0) = iI (1) from congrArg iI (by decide)]
    refine lv_istore_n (lv' := [(3, .int (iI (1))), (2, .int (iI (n))), (0, .ref z0), (1, .int (iI (z)))]) hx hb dL_passing_10 rfl hl (by decide) rfl (fun ls hl => ?_)
    refine pv_iconst hx hb dL_passing_11 ?_
    refine pv_newa (A := fun q : Nat => s.heap.size ≤ q) (H0 := s.heap) (k9 := 2) (N2 := 2) (atype := .int) (ty := .int) (a0 := (2, .inl (fun _ => iI 0))) hx hb (hts (.arrayClass .int) (by decide +kernel)) rfl hK 0 rfl (fun _ _ h => h) (show va_P D vwCl [] s.heap from fun k q h => by simp at h) ⟨fun i j p q h => by simp at h, fun k q h => by simp at h⟩ va_S.rf (fun q h => h) (fun cA => by rw [iI_0]; rfl) (by omega) rfl (Nat.le_of_ble_eq_true rfl) (Nat.le_of_ble_eq_true rfl) (Nat.le_of_ble_eq_true rfl) dL_passing_12 (fun g H hPg hDg hSg => ?_)
    have hgb : s.heap.size ≤ g := hDg.2 0 _ rfl
    have hGP : GP D cI g 2 (fun _ => iI 0) H := hPg
    have hgx : ¬ mC x0 x1 x2 x5 x6 x7 g := fun h => absurd (CW_mlt hC g h) (Nat.not_lt.mpr hgb)
    have hgz : ¬ mC z0 z1 z2 z5 z6 z7 g := fun h => absurd (CW_mlt hC2 g h) (Nat.not_lt.mpr hgb)
    have hgp : ¬ g = pp := fun h => absurd (h ▸ OP_lt hO) (Nat.not_lt.mpr hgb)
    have hC := CW_fr hC (fun q h1 h2 => hSg.2.1 q h1 h2) (fun q h => Nat.not_le.mpr (CW_mlt hC q h))
    have hC2 := CW_fr hC2 (fun q h1 h2 => hSg.2.1 q h1 h2) (fun q h => Nat.not_le.mpr (CW_mlt hC2 q h))
    have hO := OP_fr hO (fun q h1 h2 => hSg.2.1 q h1 h2) (Nat.not_le.mpr (OP_lt hO))
    have hS : va_S (fun q : Nat => mC z0 z1 z2 z5 z6 z7 q ∨ s.heap.size ≤ q) s.heap H [] := va_S_wk hSg (fun q h => Or.inr h)
    have hSW := hSW0.behind hbl hAb hS
    refine lv_astore (lv' := [(4, .ref g), (3, .int (iI (1))), (2, .int (iI (n))), (0, .ref z0), (1, .int (iI (z)))]) hx hb dL_passing_14 hl (by decide) rfl (fun ls hl => ?_)
    refine pv_iconst hx hb dL_passing_16 ?_
    refine lv_istore (lv' := [(5, .int (iI (0))), (4, .ref g), (3, .int (iI (1))), (2, .int (iI (n))), (0, .ref z0), (1, .int (iI (z)))]) hx hb dL_passing_17 hl (by decide) rfl (fun ls hl => ?_)
    refine lv_iload hx hb dL_passing_19 (lv_at hl 0 rfl) ?_
    refine lv_iload_n hx hb dL_passing_21 rfl (lv_at hl 2 rfl) ?_
    refine pv_icmp_ge (tgt := 73) hx hb dL_passing_22 (by decide) (by omega) (fun c9 => False.elim (by omega)) (fun _ => ?_)
    refine lv_iload_n hx hb dL_passing_25 rfl (lv_at hl 3 rfl) ?_
    refine lv_iload_n hx hb dL_passing_26 rfl (lv_at hl 2 rfl) ?_
    refine pv_iadd hx hb dL_passing_27 ?_
    refine pv_bipush hx hb dL_passing_28 (by decide +kernel) ?_
    by_cases hfit : n + 1 ≤ 60
    · by_cases hn0 : n = 0
      · skip
        refine pv_icmp_gt (tgt := 73) hx hb dL_passing_30 (by decide) (by omega) (fun c9 => False.elim (by omega)) (fun _ => ?_)
        obtain ⟨G8, dm0, SP8, hPT0⟩ := PT_ex (G2) (n) (0) (SP2)
        have hJ1 := INV_put hJ (by omega) (by omega) (show 0 ≤ 0 ∧ 0 ≤ n by omega) hPT0
        refine lv_aload hx hb dL_passing_33 (lv_at hl 1 rfl) ?_
        refine lv_iload hx hb dL_passing_35 (lv_at hl 0 rfl) ?_
        refine lv_iload_n hx hb dL_passing_37 rfl (lv_at hl 3 rfl) ?_
        refine pv_if_ne (tgt := 51) hx hb dL_passing_38 (by decide) (by omega) (fun c9 => False.elim (by omega)) (fun _ => ?_)
        refine lv_aload_n hx hb dL_passing_41 rfl (lv_at hl 4 rfl) ?_
        refine pv_iconst hx hb dL_passing_42 ?_
        refine pv_iconst hx hb dL_passing_43 ?_
        refine pv_iconst hx hb dL_passing_44 ?_
        refine wr_call (As := [.ref z0, .int (iI (0)), .int (iI (0)), .int (iI (0))]) (rest := [.int (iI (0)), .ref g]) CP_mv ⟨hx, hb, hml, hown, hts⟩ (d_putFirst l D cI base st Z z0 z1 z2 z5 z6 z7 (by omega) hJ.2.2.2.2.2.1 hJ.2.2.2.2.2.2.1 (by omega) G8 dm0 SP8 hPT0 0 0) (vx_cwSW 4 hts gL_passing_L_done rfl rfl rfl (by decide +kernel) ⟨(Nat.le_of_ble_eq_true rfl), (Nat.le_of_ble_eq_true rfl)⟩) ⟨hSW, hC2⟩ rfl rfl hl.1 (Nat.le_of_ble_eq_true rfl) dL_passing_45 ⟨(Nat.le_of_ble_eq_true rfl), (Nat.le_of_ble_eq_true rfl)⟩ hS (fun q h => Or.inl h) (fun H locs hP2 hz hk hS => ?_)
        have hC2 : CW D cI base z0 z1 z2 z5 z6 z7 (n + 1) (c2 + 1) (M2 + dm0) (insF (F2) (0) (c2)) G8 SP8 RF2 RC2 H := hP2
        have hC := CW_fr hC hk (fun q h y => hDJ.1 q h y)
        have hO := OP_fr hO hk hDJ.2.2.1
        have hGP := GP_fr hGP hk hgz
        have hSW := hSW0.behind hbl hAb hS
        refine lv_goto (tgt := 66) hx hb dL_passing_48 (by decide) ?_
        refine pv_ast1 (i := 0) (v := c2) hx hb hK hGP hS (Or.inr hgb) (by omega) (by decide) dL_passing_66 (fun H locs hGP hz hk hS => ?_)
        have hC := CW_fr (A := fun q => q = g) hC hk (fun q h y => hgx (y ▸ h))
        have hC2 := CW_fr (A := fun q => q = g) hC2 hk (fun q h y => hgz (y ▸ h))
        have hO := OP_fr (A := fun q => q = g) hO hk (fun y => hgp y.symm)
        have hSW := hSW0.behind hbl hAb hS
        refine pv_iinc (lv' := [(5, .int (iI (1))), (4, .ref g), (3, .int (iI (1))), (2, .int (iI (n))), (0, .ref z0), (1, .int (iI (z)))]) hx hb dL_passing_67 hl (k := 0) rfl (by decide) rfl (fun ls hl => ?_)
        refine lv_goto (tgt := 19) hx hb dL_passing_70 (by decide) ?_
        refine lv_iload hx hb dL_passing_19 (lv_at hl 0 rfl) ?_
        refine lv_iload_n hx hb dL_passing_21 rfl (lv_at hl 2 rfl) ?_
        refine pv_icmp_ge (tgt := 73) hx hb dL_passing_22 (by decide) (by omega) (fun _ => ?_) (fun c9 => False.elim (by omega))
        refine pv_iconst hx hb dL_passing_73 ?_
        refine lv_istore (lv' := [(5, .int (iI (1))), (4, .ref g), (3, .int (iI (1))), (2, .int (iI (n))), (0, .ref z0), (1, .int (iI (z)))]) hx hb dL_passing_74 hl (by decide) rfl (fun ls hl => ?_)
        refine pv_iconst hx hb dL_passing_76 ?_
        refine lv_istore (lv' := [(6, .int (iI (0))), (5, .int (iI (1))), (4, .ref g), (3, .int (iI (1))), (2, .int (iI (n))), (0, .ref z0), (1, .int (iI (z)))]) hx hb dL_passing_77 hl (by decide) rfl (fun ls hl => ?_)
        refine lv_iload hx hb dL_passing_79 (lv_at hl 0 rfl) ?_
        refine lv_iload_n hx hb dL_passing_81 rfl (lv_at hl 3 rfl) ?_
        refine pv_icmp_ge (tgt := 141) hx hb dL_passing_82 (by decide) (by omega) (fun c9 => False.elim (by omega)) (fun _ => ?_)
        refine lv_iload_n hx hb dL_passing_85 rfl (lv_at hl 4 rfl) ?_
        refine lv_iload_n hx hb dL_passing_86 rfl (lv_at hl 3 rfl) ?_
        refine pv_iadd hx hb dL_passing_87 ?_
        refine pv_bipush hx hb dL_passing_88 (by decide +kernel) ?_
        refine pv_icmp_gt (tgt := 141) hx hb dL_passing_90 (by decide) (by omega) (fun c9 => False.elim (by omega)) (fun _ => ?_)
        refine lv_iload hx hb dL_passing_93 (lv_at hl 1 rfl) ?_
        refine pv_if_eq (tgt := 132) hx hb dL_passing_95 (by decide) (by omega) (fun c9 => False.elim (by omega)) (fun _ => ?_)
        refine lv_aload hx hb dL_passing_98 (lv_at hl 2 rfl) ?_
        refine lv_iload hx hb dL_passing_100 (lv_at hl 0 rfl) ?_
        refine pv_ald1 (i := 0) (v := c2) hx hb hK hGP (by omega) (by decide) (by simp [upd]) dL_passing_102 ?_
        refine pv_if_lt (tgt := 132) hx hb dL_passing_103 (by decide) (by omega) (fun c9 => False.elim (by omega)) (fun _ => ?_)
        refine lv_aload_n hx hb dL_passing_106 rfl (lv_at hl 5 rfl) ?_
        refine pv_iconst hx hb dL_passing_107 ?_
        refine lv_aload hx hb dL_passing_108 (lv_at hl 2 rfl) ?_
        refine lv_iload hx hb dL_passing_110 (lv_at hl 0 rfl) ?_
        refine pv_ald1 (i := 0) (v := c2) hx hb hK hGP (by omega) (by decide) (by simp [upd]) dL_passing_112 ?_
        refine pv_iconst hx hb dL_passing_113 ?_
        refine wr_call (As := [.ref z0, .int (iI (2)), .int (iI (c2)), .int (iI (0))]) (rest := []) CP_mv ⟨hx, hb, hml, hown, hts⟩ (d_takeOut l D cI base st Z z0 z1 z2 z5 z6 z7 hJ1.1 hJ1.2.2.1 (INV_RF hJ1) (c2) (by omega) (0) (PL_kx hJ1 (by omega) (ins_at F2 (0) c2)) (by omega) 0) (vx_cwSW 4 hts gL_passing_L_done rfl rfl rfl (by decide +kernel) ⟨(Nat.le_of_ble_eq_true rfl), (Nat.le_of_ble_eq_true rfl)⟩) ⟨hSW, hC2⟩ rfl rfl hl.1 (Nat.le_of_ble_eq_true rfl) dL_passing_114 ⟨(Nat.le_of_ble_eq_true rfl), (Nat.le_of_ble_eq_true rfl)⟩ hS (fun q h => Or.inl h) (fun H locs hP2 hz hk hS => ?_)
        have hC2 : CW D cI base z0 z1 z2 z5 z6 z7 (n + 1 - 1) (c2 + 1) (M2 + dm0) (remF (insF (F2) (0) (c2)) (0)) (remF G8 (0)) SP8 (sendF RF2 (c2) (fa (insF (F2) (0) (c2)) (n + 1) (0 + 1))) RC2 H := hP2
        have hC := CW_fr hC hk (fun q h y => hDJ.1 q h y)
        have hO := OP_fr hO hk hDJ.2.2.1
        have hGP := GP_fr hGP hk hgz
        have hSW := hSW0.behind hbl hAb hS
        have hid0 := send_id (RF := RF2) (g := c2) (nx := fa (insF (F2) (0) (c2)) (n + 1) (0 + 1)) (fun k a b9 => RF_ne hJ ⟨a, b9⟩ (by omega))
        have hJ8 := INV_ext (INV_take hJ1 ⟨by omega, by omega, (ins_at F2 (0) c2)⟩) hid0
        have hC2 := CW_RF hC2 hid0
        rw [rem_ins, show n + 1 - 1 = n by omega] at hC2 hJ8
        refine lv_iload_n hx hb dL_passing_117 rfl (lv_at hl 4 rfl) ?_
        refine lv_iload_n hx hb dL_passing_118 rfl (lv_at hl 3 rfl) ?_
        refine pv_iadd hx hb dL_passing_119 ?_
        refine pv_iconst hx hb dL_passing_120 ?_
        refine pv_isub hx hb dL_passing_121 ?_
        refine lv_iload hx hb dL_passing_122 (lv_at hl 0 rfl) ?_
        refine pv_isub hx hb dL_passing_124 ?_
        refine pv_nesame (tgt := 132) hx hb dL_passing_125 (by decide) (by omega) ?_
        refine pv_iconst hx hb dL_passing_128 ?_
        refine lv_goto (tgt := 133) hx hb dL_passing_129 (by decide) ?_
        refine lv_istore (lv' := [(5, .int (iI (1))), (6, .int (iI (0))), (4, .ref g), (3, .int (iI (1))), (2, .int (iI (n))), (0, .ref z0), (1, .int (iI (z)))]) hx hb dL_passing_133 hl (by decide) rfl (fun ls hl => ?_)
        refine pv_iinc (lv' := [(6, .int (iI (1))), (5, .int (iI (1))), (4, .ref g), (3, .int (iI (1))), (2, .int (iI (n))), (0, .ref z0), (1, .int (iI (z)))]) hx hb dL_passing_135 hl (k := 1) rfl (by decide) rfl (fun ls hl => ?_)
        refine lv_goto (tgt := 79) hx hb dL_passing_138 (by decide) ?_
        refine lv_iload hx hb dL_passing_79 (lv_at hl 0 rfl) ?_
        refine lv_iload_n hx hb dL_passing_81 rfl (lv_at hl 3 rfl) ?_
        refine pv_icmp_ge (tgt := 141) hx hb dL_passing_82 (by decide) (by omega) (fun _ => ?_) (fun c9 => False.elim (by omega))
        refine lv_iload hx hb dL_passing_141 (lv_at hl 1 rfl) ?_
        refine pv_if_eq (tgt := 158) hx hb dL_passing_143 (by decide) (by omega) (fun c9 => False.elim (by omega)) (fun _ => ?_)
        refine lv_aload_n hx hb dL_passing_146 rfl (lv_at hl 5 rfl) ?_
        refine pu_callV (v := n) (As := []) (rest := []) CP_mv ⟨hx, hb, hml, hown, hts⟩ (c_size l D cI base st Z z0 z1 z2 z5 z6 z7 hn) (cwV 0 hts gL_passing_X0_size rfl rfl rfl (by decide +kernel) ⟨(Nat.le_of_ble_eq_true rfl), (Nat.le_of_ble_eq_true rfl)⟩) ⟨hSW, hC2⟩ (CP_rc ⟨hSW, hC2⟩) rfl rfl hl.1 (Nat.le_of_ble_eq_true rfl) dL_passing_147 ⟨(Nat.le_of_ble_eq_true rfl), (Nat.le_of_ble_eq_true rfl)⟩ ?_
        refine lv_iload_n hx hb dL_passing_150 rfl (lv_at hl 4 rfl) ?_
        refine pv_nesame (tgt := 158) hx hb dL_passing_151 (by decide) (rfl) ?_
        refine pv_iconst hx hb dL_passing_154 ?_
        refine lv_goto (tgt := 159) hx hb dL_passing_155 (by decide) ?_
        refine W.widen (k := 1) (n := 2) (by omega) (by omega) ?_
        exact nw_zret hx hb hr hlocks hS dL_passing_159 rfl (Or.inr rfl) ⟨_, _, _, _, _, _, _, _, _, _, _, _, _, _, _, _, hC, hC2, hO, hI, hJ8, hR, by omega, by omega, by omega⟩
      · obtain ⟨v, hv9⟩ : ∃ y, y = z / 4 % n := ⟨_, rfl⟩
        have hv : 0 ≤ v ∧ v < n := by rw [hv9]; exact ⟨Int.emod_nonneg _ hn0, Int.emod_lt_of_pos _ (by omega)⟩
        refine pv_icmp_gt (tgt := 73) hx hb dL_passing_30 (by decide) (by omega) (fun c9 => False.elim (by omega)) (fun _ => ?_)
        obtain ⟨G8, dm0, SP8, hPT0⟩ := PT_ex (G2) (n) (v + 1) (SP2)
        have hJ1 := INV_put hJ (by omega) (by omega) (show 0 ≤ v + 1 ∧ v + 1 ≤ n by omega) hPT0
        refine lv_aload hx hb dL_passing_33 (lv_at hl 1 rfl) ?_
        refine lv_iload hx hb dL_passing_35 (lv_at hl 0 rfl) ?_
        refine lv_iload_n hx hb dL_passing_37 rfl (lv_at hl 3 rfl) ?_
        refine pv_if_ne (tgt := 51) hx hb dL_passing_38 (by decide) (by omega) (fun _ => ?_) (fun c9 => False.elim (by omega))
        refine lv_aload_n hx hb dL_passing_51 rfl (lv_at hl 4 rfl) ?_
        refine pv_iconst hx hb dL_passing_52 ?_
        refine lv_aload_n hx hb dL_passing_53 rfl (lv_at hl 4 rfl) ?_
        refine lv_iload_n hx hb dL_passing_54 rfl (lv_at hl 5 rfl) ?_
        refine pv_iconst hx hb dL_passing_55 ?_
        refine pv_idiv hx hb dL_passing_56 (by omega) (by omega) ?_
        refine lv_iload_n hx hb dL_passing_57 rfl (lv_at hl 3 rfl) ?_
        refine pv_irem hx hb dL_passing_58 (by omega) (by omega) ?_
        rw [show iI ((z / 4) % n) = iI (v) from congrArg iI (hv9.symm)]
        refine pu_callS (v := (F2) v) (As := [.ref z0, .int (iI (v))]) (rest := [.int (iI (1)), .ref z0, .int (iI (0)), .ref g]) CP_mv ⟨hx, hb, hml, hown, hts⟩ (f_at l D cI base st Z z0 z1 z2 z5 z6 z7 hJ v (by omega)) (va_cwS 2 hts gL_passing_L_folderAt rfl rfl rfl (by decide +kernel) ⟨(Nat.le_of_ble_eq_true rfl), (Nat.le_of_ble_eq_true rfl)⟩) ⟨hSW, hC2⟩ rfl rfl hl.1 (Nat.le_of_ble_eq_true rfl) dL_passing_59 ⟨(Nat.le_of_ble_eq_true rfl), (Nat.le_of_ble_eq_true rfl)⟩ ?_
        refine pv_iconst hx hb dL_passing_62 ?_
        have hxv := hJ.2.2.1 v (by omega) (by omega)
        refine wr_call (As := [.ref z0, .int (iI (1)), .int (iI ((F2) v)), .int (iI (0))]) (rest := [.int (iI (0)), .ref g]) CP_mv ⟨hx, hb, hml, hown, hts⟩ (d_putBehind l D cI base st Z z0 z1 z2 z5 z6 z7 (by omega) hJ.2.2.1 hJ.2.2.2.2.2.1 hJ.2.2.2.2.2.2.1 (by omega) ((F2) v) (by omega) v (PL_k hJ (by omega)) hv.1 G8 dm0 SP8 hPT0 0) (vx_cwSW 4 hts gL_passing_L_done rfl rfl rfl (by decide +kernel) ⟨(Nat.le_of_ble_eq_true rfl), (Nat.le_of_ble_eq_true rfl)⟩) ⟨hSW, hC2⟩ rfl rfl hl.1 (Nat.le_of_ble_eq_true rfl) dL_passing_63 ⟨(Nat.le_of_ble_eq_true rfl), (Nat.le_of_ble_eq_true rfl)⟩ hS (fun q h => Or.inl h) (fun H locs hP2 hz hk hS => ?_)
        have hC2 : CW D cI base z0 z1 z2 z5 z6 z7 (n + 1) (c2 + 1) (M2 + dm0) (insF (F2) (v + 1) (c2)) G8 SP8 RF2 RC2 H := hP2
        have hC := CW_fr hC hk (fun q h y => hDJ.1 q h y)
        have hO := OP_fr hO hk hDJ.2.2.1
        have hGP := GP_fr hGP hk hgz
        have hSW := hSW0.behind hbl hAb hS
        refine pv_ast1 (i := 0) (v := c2) hx hb hK hGP hS (Or.inr hgb) (by omega) (by decide) dL_passing_66 (fun H locs hGP hz hk hS => ?_)
        have hC := CW_fr (A := fun q => q = g) hC hk (fun q h y => hgx (y ▸ h))
        have hC2 := CW_fr (A := fun q => q = g) hC2 hk (fun q h y => hgz (y ▸ h))
        have hO := OP_fr (A := fun q => q = g) hO hk (fun y => hgp y.symm)
        have hSW := hSW0.behind hbl hAb hS
        refine pv_iinc (lv' := [(5, .int (iI (1))), (4, .ref g), (3, .int (iI (1))), (2, .int (iI (n))), (0, .ref z0), (1, .int (iI (z)))]) hx hb dL_passing_67 hl (k := 0) rfl (by decide) rfl (fun ls hl => ?_)
        refine lv_goto (tgt := 19) hx hb dL_passing_70 (by decide) ?_
        refine lv_iload hx hb dL_passing_19 (lv_at hl 0 rfl) ?_
        refine lv_iload_n hx hb dL_passing_21 rfl (lv_at hl 2 rfl) ?_
        refine pv_icmp_ge (tgt := 73) hx hb dL_passing_22 (by decide) (by omega) (fun _ => ?_) (fun c9 => False.elim (by omega))
        refine pv_iconst hx hb dL_passing_73 ?_
        refine lv_istore (lv' := [(5, .int (iI (1))), (4, .ref g), (3, .int (iI (1))), (2, .int (iI (n))), (0, .ref z0), (1, .int (iI (z)))]) hx hb dL_passing_74 hl (by decide) rfl (fun ls hl => ?_)
        refine pv_iconst hx hb dL_passing_76 ?_
        refine lv_istore (lv' := [(6, .int (iI (0))), (5, .int (iI (1))), (4, .ref g), (3, .int (iI (1))), (2, .int (iI (n))), (0, .ref z0), (1, .int (iI (z)))]) hx hb dL_passing_77 hl (by decide) rfl (fun ls hl => ?_)
        refine lv_iload hx hb dL_passing_79 (lv_at hl 0 rfl) ?_
        refine lv_iload_n hx hb dL_passing_81 rfl (lv_at hl 3 rfl) ?_
        refine pv_icmp_ge (tgt := 141) hx hb dL_passing_82 (by decide) (by omega) (fun c9 => False.elim (by omega)) (fun _ => ?_)
        refine lv_iload_n hx hb dL_passing_85 rfl (lv_at hl 4 rfl) ?_
        refine lv_iload_n hx hb dL_passing_86 rfl (lv_at hl 3 rfl) ?_
        refine pv_iadd hx hb dL_passing_87 ?_
        refine pv_bipush hx hb dL_passing_88 (by decide +kernel) ?_
        refine pv_icmp_gt (tgt := 141) hx hb dL_passing_90 (by decide) (by omega) (fun c9 => False.elim (by omega)) (fun _ => ?_)
        refine lv_iload hx hb dL_passing_93 (lv_at hl 1 rfl) ?_
        refine pv_if_eq (tgt := 132) hx hb dL_passing_95 (by decide) (by omega) (fun c9 => False.elim (by omega)) (fun _ => ?_)
        refine lv_aload hx hb dL_passing_98 (lv_at hl 2 rfl) ?_
        refine lv_iload hx hb dL_passing_100 (lv_at hl 0 rfl) ?_
        refine pv_ald1 (i := 0) (v := c2) hx hb hK hGP (by omega) (by decide) (by simp [upd]) dL_passing_102 ?_
        refine pv_if_lt (tgt := 132) hx hb dL_passing_103 (by decide) (by omega) (fun c9 => False.elim (by omega)) (fun _ => ?_)
        refine lv_aload_n hx hb dL_passing_106 rfl (lv_at hl 5 rfl) ?_
        refine pv_iconst hx hb dL_passing_107 ?_
        refine lv_aload hx hb dL_passing_108 (lv_at hl 2 rfl) ?_
        refine lv_iload hx hb dL_passing_110 (lv_at hl 0 rfl) ?_
        refine pv_ald1 (i := 0) (v := c2) hx hb hK hGP (by omega) (by decide) (by simp [upd]) dL_passing_112 ?_
        refine pv_iconst hx hb dL_passing_113 ?_
        refine wr_call (As := [.ref z0, .int (iI (2)), .int (iI (c2)), .int (iI (0))]) (rest := []) CP_mv ⟨hx, hb, hml, hown, hts⟩ (d_takeOut l D cI base st Z z0 z1 z2 z5 z6 z7 hJ1.1 hJ1.2.2.1 (INV_RF hJ1) (c2) (by omega) (v + 1) (PL_kx hJ1 (by omega) (ins_at F2 (v + 1) c2)) (by omega) 0) (vx_cwSW 4 hts gL_passing_L_done rfl rfl rfl (by decide +kernel) ⟨(Nat.le_of_ble_eq_true rfl), (Nat.le_of_ble_eq_true rfl)⟩) ⟨hSW, hC2⟩ rfl rfl hl.1 (Nat.le_of_ble_eq_true rfl) dL_passing_114 ⟨(Nat.le_of_ble_eq_true rfl), (Nat.le_of_ble_eq_true rfl)⟩ hS (fun q h => Or.inl h) (fun H locs hP2 hz hk hS => ?_)
        have hC2 : CW D cI base z0 z1 z2 z5 z6 z7 (n + 1 - 1) (c2 + 1) (M2 + dm0) (remF (insF (F2) (v + 1) (c2)) (v + 1)) (remF G8 (v + 1)) SP8 (sendF RF2 (c2) (fa (insF (F2) (v + 1) (c2)) (n + 1) (v + 1 + 1))) RC2 H := hP2
        have hC := CW_fr hC hk (fun q h y => hDJ.1 q h y)
        have hO := OP_fr hO hk hDJ.2.2.1
        have hGP := GP_fr hGP hk hgz
        have hSW := hSW0.behind hbl hAb hS
        have hid0 := send_id (RF := RF2) (g := c2) (nx := fa (insF (F2) (v + 1) (c2)) (n + 1) (v + 1 + 1)) (fun k a b9 => RF_ne hJ ⟨a, b9⟩ (by omega))
        have hJ8 := INV_ext (INV_take hJ1 ⟨by omega, by omega, (ins_at F2 (v + 1) c2)⟩) hid0
        have hC2 := CW_RF hC2 hid0
        rw [rem_ins, show n + 1 - 1 = n by omega] at hC2 hJ8
        refine lv_iload_n hx hb dL_passing_117 rfl (lv_at hl 4 rfl) ?_
        refine lv_iload_n hx hb dL_passing_118 rfl (lv_at hl 3 rfl) ?_
        refine pv_iadd hx hb dL_passing_119 ?_
        refine pv_iconst hx hb dL_passing_120 ?_
        refine pv_isub hx hb dL_passing_121 ?_
        refine lv_iload hx hb dL_passing_122 (lv_at hl 0 rfl) ?_
        refine pv_isub hx hb dL_passing_124 ?_
        refine pv_nesame (tgt := 132) hx hb dL_passing_125 (by decide) (by omega) ?_
        refine pv_iconst hx hb dL_passing_128 ?_
        refine lv_goto (tgt := 133) hx hb dL_passing_129 (by decide) ?_
        refine lv_istore (lv' := [(5, .int (iI (1))), (6, .int (iI (0))), (4, .ref g), (3, .int (iI (1))), (2, .int (iI (n))), (0, .ref z0), (1, .int (iI (z)))]) hx hb dL_passing_133 hl (by decide) rfl (fun ls hl => ?_)
        refine pv_iinc (lv' := [(6, .int (iI (1))), (5, .int (iI (1))), (4, .ref g), (3, .int (iI (1))), (2, .int (iI (n))), (0, .ref z0), (1, .int (iI (z)))]) hx hb dL_passing_135 hl (k := 1) rfl (by decide) rfl (fun ls hl => ?_)
        refine lv_goto (tgt := 79) hx hb dL_passing_138 (by decide) ?_
        refine lv_iload hx hb dL_passing_79 (lv_at hl 0 rfl) ?_
        refine lv_iload_n hx hb dL_passing_81 rfl (lv_at hl 3 rfl) ?_
        refine pv_icmp_ge (tgt := 141) hx hb dL_passing_82 (by decide) (by omega) (fun _ => ?_) (fun c9 => False.elim (by omega))
        refine lv_iload hx hb dL_passing_141 (lv_at hl 1 rfl) ?_
        refine pv_if_eq (tgt := 158) hx hb dL_passing_143 (by decide) (by omega) (fun c9 => False.elim (by omega)) (fun _ => ?_)
        refine lv_aload_n hx hb dL_passing_146 rfl (lv_at hl 5 rfl) ?_
        refine pu_callV (v := n) (As := []) (rest := []) CP_mv ⟨hx, hb, hml, hown, hts⟩ (c_size l D cI base st Z z0 z1 z2 z5 z6 z7 hn) (cwV 0 hts gL_passing_X0_size rfl rfl rfl (by decide +kernel) ⟨(Nat.le_of_ble_eq_true rfl), (Nat.le_of_ble_eq_true rfl)⟩) ⟨hSW, hC2⟩ (CP_rc ⟨hSW, hC2⟩) rfl rfl hl.1 (Nat.le_of_ble_eq_true rfl) dL_passing_147 ⟨(Nat.le_of_ble_eq_true rfl), (Nat.le_of_ble_eq_true rfl)⟩ ?_
        refine lv_iload_n hx hb dL_passing_150 rfl (lv_at hl 4 rfl) ?_
        refine pv_nesame (tgt := 158) hx hb dL_passing_151 (by decide) (rfl) ?_
        refine pv_iconst hx hb dL_passing_154 ?_
        refine lv_goto (tgt := 159) hx hb dL_passing_155 (by decide) ?_
        refine W.widen (k := 1) (n := 2) (by omega) (by omega) ?_
        exact nw_zret hx hb hr hlocks hS dL_passing_159 rfl (Or.inr rfl) ⟨_, _, _, _, _, _, _, _, _, _, _, _, _, _, _, _, hC, hC2, hO, hI, hJ8, hR, by omega, by omega, by omega⟩
    · skip
      refine pv_icmp_gt (tgt := 73) hx hb dL_passing_30 (by decide) (by omega) (fun _ => ?_) (fun c9 => False.elim (by omega))
      refine pv_iconst hx hb dL_passing_73 ?_
      refine lv_istore (lv' := [(5, .int (iI (1))), (4, .ref g), (3, .int (iI (1))), (2, .int (iI (n))), (0, .ref z0), (1, .int (iI (z)))]) hx hb dL_passing_74 hl (by decide) rfl (fun ls hl => ?_)
      refine pv_iconst hx hb dL_passing_76 ?_
      refine lv_istore (lv' := [(6, .int (iI (0))), (5, .int (iI (1))), (4, .ref g), (3, .int (iI (1))), (2, .int (iI (n))), (0, .ref z0), (1, .int (iI (z)))]) hx hb dL_passing_77 hl (by decide) rfl (fun ls hl => ?_)
      refine lv_iload hx hb dL_passing_79 (lv_at hl 0 rfl) ?_
      refine lv_iload_n hx hb dL_passing_81 rfl (lv_at hl 3 rfl) ?_
      refine pv_icmp_ge (tgt := 141) hx hb dL_passing_82 (by decide) (by omega) (fun c9 => False.elim (by omega)) (fun _ => ?_)
      refine lv_iload_n hx hb dL_passing_85 rfl (lv_at hl 4 rfl) ?_
      refine lv_iload_n hx hb dL_passing_86 rfl (lv_at hl 3 rfl) ?_
      refine pv_iadd hx hb dL_passing_87 ?_
      refine pv_bipush hx hb dL_passing_88 (by decide +kernel) ?_
      refine pv_icmp_gt (tgt := 141) hx hb dL_passing_90 (by decide) (by omega) (fun _ => ?_) (fun c9 => False.elim (by omega))
      refine lv_iload hx hb dL_passing_141 (lv_at hl 1 rfl) ?_
      refine pv_if_eq (tgt := 158) hx hb dL_passing_143 (by decide) (by omega) (fun c9 => False.elim (by omega)) (fun _ => ?_)
      refine lv_aload_n hx hb dL_passing_146 rfl (lv_at hl 5 rfl) ?_
      refine pu_callV (v := n) (As := []) (rest := []) CP_mv ⟨hx, hb, hml, hown, hts⟩ (c_size l D cI base st Z z0 z1 z2 z5 z6 z7 hn) (cwV 0 hts gL_passing_X0_size rfl rfl rfl (by decide +kernel) ⟨(Nat.le_of_ble_eq_true rfl), (Nat.le_of_ble_eq_true rfl)⟩) ⟨hSW, hC2⟩ (CP_rc ⟨hSW, hC2⟩) rfl rfl hl.1 (Nat.le_of_ble_eq_true rfl) dL_passing_147 ⟨(Nat.le_of_ble_eq_true rfl), (Nat.le_of_ble_eq_true rfl)⟩ ?_
      refine lv_iload_n hx hb dL_passing_150 rfl (lv_at hl 4 rfl) ?_
      refine pv_nesame (tgt := 158) hx hb dL_passing_151 (by decide) (rfl) ?_
      refine pv_iconst hx hb dL_passing_154 ?_
      refine lv_goto (tgt := 159) hx hb dL_passing_155 (by decide) ?_
      refine W.widen (k := 1) (n := 2) (by omega) (by omega) ?_
      exact nw_zret hx hb hr hlocks hS dL_passing_159 rfl (Or.inr rfl) ⟨_, _, _, _, _, _, _, _, _, _, _, _, _, _, _, _, hC, hC2, hO, hI, hJ, hR, by omega, by omega, by omega⟩
  · skip
    rw [show iI (z % 2) = iI (1) from congrArg iI (by omega)]
    refine pv_iadd hx hb dL_passing_9 ?_
    rw [show iI (1 + 1) = iI (2) from congrArg iI (by decide)]
    refine lv_istore_n (lv' := [(3, .int (iI (2))), (2, .int (iI (n))), (0, .ref z0), (1, .int (iI (z)))]) hx hb dL_passing_10 rfl hl (by decide) rfl (fun ls hl => ?_)
    refine pv_iconst hx hb dL_passing_11 ?_
    refine pv_newa (A := fun q : Nat => s.heap.size ≤ q) (H0 := s.heap) (k9 := 2) (N2 := 2) (atype := .int) (ty := .int) (a0 := (2, .inl (fun _ => iI 0))) hx hb (hts (.arrayClass .int) (by decide +kernel)) rfl hK 0 rfl (fun _ _ h => h) (show va_P D vwCl [] s.heap from fun k q h => by simp at h) ⟨fun i j p q h => by simp at h, fun k q h => by simp at h⟩ va_S.rf (fun q h => h) (fun cA => by rw [iI_0]; rfl) (by omega) rfl (Nat.le_of_ble_eq_true rfl) (Nat.le_of_ble_eq_true rfl) (Nat.le_of_ble_eq_true rfl) dL_passing_12 (fun g H hPg hDg hSg => ?_)
    have hgb : s.heap.size ≤ g := hDg.2 0 _ rfl
    have hGP : GP D cI g 2 (fun _ => iI 0) H := hPg
    have hgx : ¬ mC x0 x1 x2 x5 x6 x7 g := fun h => absurd (CW_mlt hC g h) (Nat.not_lt.mpr hgb)
    have hgz : ¬ mC z0 z1 z2 z5 z6 z7 g := fun h => absurd (CW_mlt hC2 g h) (Nat.not_lt.mpr hgb)
    have hgp : ¬ g = pp := fun h => absurd (h ▸ OP_lt hO) (Nat.not_lt.mpr hgb)
    have hC := CW_fr hC (fun q h1 h2 => hSg.2.1 q h1 h2) (fun q h => Nat.not_le.mpr (CW_mlt hC q h))
    have hC2 := CW_fr hC2 (fun q h1 h2 => hSg.2.1 q h1 h2) (fun q h => Nat.not_le.mpr (CW_mlt hC2 q h))
    have hO := OP_fr hO (fun q h1 h2 => hSg.2.1 q h1 h2) (Nat.not_le.mpr (OP_lt hO))
    have hS : va_S (fun q : Nat => mC z0 z1 z2 z5 z6 z7 q ∨ s.heap.size ≤ q) s.heap H [] := va_S_wk hSg (fun q h => Or.inr h)
    have hSW := hSW0.behind hbl hAb hS
    refine lv_astore (lv' := [(4, .ref g), (3, .int (iI (2))), (2, .int (iI (n))), (0, .ref z0), (1, .int (iI (z)))]) hx hb dL_passing_14 hl (by decide) rfl (fun ls hl => ?_)
    refine pv_iconst hx hb dL_passing_16 ?_
    refine lv_istore (lv' := [(5, .int (iI (0))), (4, .ref g), (3, .int (iI (2))), (2, .int (iI (n))), (0, .ref z0), (1, .int (iI (z)))]) hx hb dL_passing_17 hl (by decide) rfl (fun ls hl => ?_)
    refine lv_iload hx hb dL_passing_19 (lv_at hl 0 rfl) ?_
    refine lv_iload_n hx hb dL_passing_21 rfl (lv_at hl 2 rfl) ?_
    refine pv_icmp_ge (tgt := 73) hx hb dL_passing_22 (by decide) (by omega) (fun c9 => False.elim (by omega)) (fun _ => ?_)
    refine lv_iload_n hx hb dL_passing_25 rfl (lv_at hl 3 rfl) ?_
    refine lv_iload_n hx hb dL_passing_26 rfl (lv_at hl 2 rfl) ?_
    refine pv_iadd hx hb dL_passing_27 ?_
    refine pv_bipush hx hb dL_passing_28 (by decide +kernel) ?_
    by_cases hfit : n + 2 ≤ 60
    · by_cases hn0 : n = 0
      · skip
        refine pv_icmp_gt (tgt := 73) hx hb dL_passing_30 (by decide) (by omega) (fun c9 => False.elim (by omega)) (fun _ => ?_)
        obtain ⟨G8, dm0, SP8, hPT0⟩ := PT_ex (G2) (n) (0) (SP2)
        have hJ1 := INV_put hJ (by omega) (by omega) (show 0 ≤ 0 ∧ 0 ≤ n by omega) hPT0
        refine lv_aload hx hb dL_passing_33 (lv_at hl 1 rfl) ?_
        refine lv_iload hx hb dL_passing_35 (lv_at hl 0 rfl) ?_
        refine lv_iload_n hx hb dL_passing_37 rfl (lv_at hl 3 rfl) ?_
        refine pv_if_ne (tgt := 51) hx hb dL_passing_38 (by decide) (by omega) (fun c9 => False.elim (by omega)) (fun _ => ?_)
        refine lv_aload_n hx hb dL_passing_41 rfl (lv_at hl 4 rfl) ?_
        refine pv_iconst hx hb dL_passing_42 ?_
        refine pv_iconst hx hb dL_passing_43 ?_
        refine pv_iconst hx hb dL_passing_44 ?_
        refine wr_call (As := [.ref z0, .int (iI (0)), .int (iI (0)), .int (iI (0))]) (rest := [.int (iI (0)), .ref g]) CP_mv ⟨hx, hb, hml, hown, hts⟩ (d_putFirst l D cI base st Z z0 z1 z2 z5 z6 z7 (by omega) hJ.2.2.2.2.2.1 hJ.2.2.2.2.2.2.1 (by omega) G8 dm0 SP8 hPT0 0 0) (vx_cwSW 4 hts gL_passing_L_done rfl rfl rfl (by decide +kernel) ⟨(Nat.le_of_ble_eq_true rfl), (Nat.le_of_ble_eq_true rfl)⟩) ⟨hSW, hC2⟩ rfl rfl hl.1 (Nat.le_of_ble_eq_true rfl) dL_passing_45 ⟨(Nat.le_of_ble_eq_true rfl), (Nat.le_of_ble_eq_true rfl)⟩ hS (fun q h => Or.inl h) (fun H locs hP2 hz hk hS => ?_)
        have hC2 : CW D cI base z0 z1 z2 z5 z6 z7 (n + 1) (c2 + 1) (M2 + dm0) (insF (F2) (0) (c2)) G8 SP8 RF2 RC2 H := hP2
        have hC := CW_fr hC hk (fun q h y => hDJ.1 q h y)
        have hO := OP_fr hO hk hDJ.2.2.1
        have hGP := GP_fr hGP hk hgz
        have hSW := hSW0.behind hbl hAb hS
        refine lv_goto (tgt := 66) hx hb dL_passing_48 (by decide) ?_
        refine pv_ast1 (i := 0) (v := c2) hx hb hK hGP hS (Or.inr hgb) (by omega) (by decide) dL_passing_66 (fun H locs hGP hz hk hS => ?_)
        have hC := CW_fr (A := fun q => q = g) hC hk (fun q h y => hgx (y ▸ h))
        have hC2 := CW_fr (A := fun q => q = g) hC2 hk (fun q h y => hgz (y ▸ h))
        have hO := OP_fr (A := fun q => q = g) hO hk (fun y => hgp y.symm)
        have hSW := hSW0.behind hbl hAb hS
        refine pv_iinc (lv' := [(5, .int (iI (1))), (4, .ref g), (3, .int (iI (2))), (2, .int (iI (n))), (0, .ref z0), (1, .int (iI (z)))]) hx hb dL_passing_67 hl (k := 0) rfl (by decide) rfl (fun ls hl => ?_)
        refine lv_goto (tgt := 19) hx hb dL_passing_70 (by decide) ?_
        refine lv_iload hx hb dL_passing_19 (lv_at hl 0 rfl) ?_
        refine lv_iload_n hx hb dL_passing_21 rfl (lv_at hl 2 rfl) ?_
        refine pv_icmp_ge (tgt := 73) hx hb dL_passing_22 (by decide) (by omega) (fun c9 => False.elim (by omega)) (fun _ => ?_)
        refine lv_iload_n hx hb dL_passing_25 rfl (lv_at hl 3 rfl) ?_
        refine lv_iload_n hx hb dL_passing_26 rfl (lv_at hl 2 rfl) ?_
        refine pv_iadd hx hb dL_passing_27 ?_
        refine pv_bipush hx hb dL_passing_28 (by decide +kernel) ?_
        refine pv_icmp_gt (tgt := 73) hx hb dL_passing_30 (by decide) (by omega) (fun c9 => False.elim (by omega)) (fun _ => ?_)
        obtain ⟨G9, dm1, SP9, hPT1⟩ := PT_ex (G8) (n + 1) (0) (SP8)
        have hJ2 := INV_put hJ1 (by omega) (by omega) (show 0 ≤ 0 ∧ 0 ≤ n + 1 by omega) hPT1
        refine lv_aload hx hb dL_passing_33 (lv_at hl 1 rfl) ?_
        refine lv_iload hx hb dL_passing_35 (lv_at hl 0 rfl) ?_
        refine lv_iload_n hx hb dL_passing_37 rfl (lv_at hl 3 rfl) ?_
        refine pv_if_ne (tgt := 51) hx hb dL_passing_38 (by decide) (by omega) (fun c9 => False.elim (by omega)) (fun _ => ?_)
        refine lv_aload_n hx hb dL_passing_41 rfl (lv_at hl 4 rfl) ?_
        refine pv_iconst hx hb dL_passing_42 ?_
        refine pv_iconst hx hb dL_passing_43 ?_
        refine pv_iconst hx hb dL_passing_44 ?_
        refine wr_call (As := [.ref z0, .int (iI (0)), .int (iI (0)), .int (iI (0))]) (rest := [.int (iI (1)), .ref g]) CP_mv ⟨hx, hb, hml, hown, hts⟩ (d_putFirst l D cI base st Z z0 z1 z2 z5 z6 z7 (by omega) hJ1.2.2.2.2.2.1 hJ1.2.2.2.2.2.2.1 (by omega) G9 dm1 SP9 hPT1 0 0) (vx_cwSW 4 hts gL_passing_L_done rfl rfl rfl (by decide +kernel) ⟨(Nat.le_of_ble_eq_true rfl), (Nat.le_of_ble_eq_true rfl)⟩) ⟨hSW, hC2⟩ rfl rfl hl.1 (Nat.le_of_ble_eq_true rfl) dL_passing_45 ⟨(Nat.le_of_ble_eq_true rfl), (Nat.le_of_ble_eq_true rfl)⟩ hS (fun q h => Or.inl h) (fun H locs hP2 hz hk hS => ?_)
        have hC2 : CW D cI base z0 z1 z2 z5 z6 z7 (n + 1 + 1) (c2 + 1 + 1) (M2 + dm0 + dm1) (insF (insF (F2) (0) (c2)) (0) (c2 + 1)) G9 SP9 RF2 RC2 H := hP2
        have hC := CW_fr hC hk (fun q h y => hDJ.1 q h y)
        have hO := OP_fr hO hk hDJ.2.2.1
        have hGP := GP_fr hGP hk hgz
        have hSW := hSW0.behind hbl hAb hS
        refine lv_goto (tgt := 66) hx hb dL_passing_48 (by decide) ?_
        refine pv_ast1 (i := 1) (v := c2 + 1) hx hb hK hGP hS (Or.inr hgb) (by omega) (by decide) dL_passing_66 (fun H locs hGP hz hk hS => ?_)
        have hC := CW_fr (A := fun q => q = g) hC hk (fun q h y => hgx (y ▸ h))
        have hC2 := CW_fr (A := fun q => q = g) hC2 hk (fun q h y => hgz (y ▸ h))
        have hO := OP_fr (A := fun q => q = g) hO hk (fun y => hgp y.symm)
        have hSW := hSW0.behind hbl hAb hS
        refine pv_iinc (lv' := [(5, .int (iI (2))), (4, .ref g), (3, .int (iI (2))), (2, .int (iI (n))), (0, .ref z0), (1, .int (iI (z)))]) hx hb dL_passing_67 hl (k := 0) rfl (by decide) rfl (fun ls hl => ?_)
        refine lv_goto (tgt := 19) hx hb dL_passing_70 (by decide) ?_
        refine lv_iload hx hb dL_passing_19 (lv_at hl 0 rfl) ?_
        refine lv_iload_n hx hb dL_passing_21 rfl (lv_at hl 2 rfl) ?_
        refine pv_icmp_ge (tgt := 73) hx hb dL_passing_22 (by decide) (by omega) (fun _ => ?_) (fun c9 => False.elim (by omega))
        refine pv_iconst hx hb dL_passing_73 ?_
        refine lv_istore (lv' := [(5, .int (iI (1))), (4, .ref g), (3, .int (iI (2))), (2, .int (iI (n))), (0, .ref z0), (1, .int (iI (z)))]) hx hb dL_passing_74 hl (by decide) rfl (fun ls hl => ?_)
        refine pv_iconst hx hb dL_passing_76 ?_
        refine lv_istore (lv' := [(6, .int (iI (0))), (5, .int (iI (1))), (4, .ref g), (3, .int (iI (2))), (2, .int (iI (n))), (0, .ref z0), (1, .int (iI (z)))]) hx hb dL_passing_77 hl (by decide) rfl (fun ls hl => ?_)
        refine lv_iload hx hb dL_passing_79 (lv_at hl 0 rfl) ?_
        refine lv_iload_n hx hb dL_passing_81 rfl (lv_at hl 3 rfl) ?_
        refine pv_icmp_ge (tgt := 141) hx hb dL_passing_82 (by decide) (by omega) (fun c9 => False.elim (by omega)) (fun _ => ?_)
        refine lv_iload_n hx hb dL_passing_85 rfl (lv_at hl 4 rfl) ?_
        refine lv_iload_n hx hb dL_passing_86 rfl (lv_at hl 3 rfl) ?_
        refine pv_iadd hx hb dL_passing_87 ?_
        refine pv_bipush hx hb dL_passing_88 (by decide +kernel) ?_
        refine pv_icmp_gt (tgt := 141) hx hb dL_passing_90 (by decide) (by omega) (fun c9 => False.elim (by omega)) (fun _ => ?_)
        refine lv_iload hx hb dL_passing_93 (lv_at hl 1 rfl) ?_
        refine pv_if_eq (tgt := 132) hx hb dL_passing_95 (by decide) (by omega) (fun c9 => False.elim (by omega)) (fun _ => ?_)
        refine lv_aload hx hb dL_passing_98 (lv_at hl 2 rfl) ?_
        refine lv_iload hx hb dL_passing_100 (lv_at hl 0 rfl) ?_
        refine pv_ald1 (i := 0) (v := c2) hx hb hK hGP (by omega) (by decide) (by simp [upd]) dL_passing_102 ?_
        refine pv_if_lt (tgt := 132) hx hb dL_passing_103 (by decide) (by omega) (fun c9 => False.elim (by omega)) (fun _ => ?_)
        refine lv_aload_n hx hb dL_passing_106 rfl (lv_at hl 5 rfl) ?_
        refine pv_iconst hx hb dL_passing_107 ?_
        refine lv_aload hx hb dL_passing_108 (lv_at hl 2 rfl) ?_
        refine lv_iload hx hb dL_passing_110 (lv_at hl 0 rfl) ?_
        refine pv_ald1 (i := 0) (v := c2) hx hb hK hGP (by omega) (by decide) (by simp [upd]) dL_passing_112 ?_
        refine pv_iconst hx hb dL_passing_113 ?_
        refine wr_call (As := [.ref z0, .int (iI (2)), .int (iI (c2)), .int (iI (0))]) (rest := []) CP_mv ⟨hx, hb, hml, hown, hts⟩ (d_takeOut l D cI base st Z z0 z1 z2 z5 z6 z7 hJ2.1 hJ2.2.2.1 (INV_RF hJ2) (c2) (by omega) (0 + 1) (PL_kx hJ2 (by omega) (ins_at1 F2 (0) c2 (c2 + 1))) (by omega) 0) (vx_cwSW 4 hts gL_passing_L_done rfl rfl rfl (by decide +kernel) ⟨(Nat.le_of_ble_eq_true rfl), (Nat.le_of_ble_eq_true rfl)⟩) ⟨hSW, hC2⟩ rfl rfl hl.1 (Nat.le_of_ble_eq_true rfl) dL_passing_114 ⟨(Nat.le_of_ble_eq_true rfl), (Nat.le_of_ble_eq_true rfl)⟩ hS (fun q h => Or.inl h) (fun H locs hP2 hz hk hS => ?_)
        have hC2 : CW D cI base z0 z1 z2 z5 z6 z7 (n + 1 + 1 - 1) (c2 + 1 + 1) (M2 + dm0 + dm1) (remF (insF (insF (F2) (0) (c2)) (0) (c2 + 1)) (0 + 1)) (remF G9 (0 + 1)) SP9 (sendF RF2 (c2) (fa (insF (insF (F2) (0) (c2)) (0) (c2 + 1)) (n + 1 + 1) (0 + 1 + 1))) RC2 H := hP2
        have hC := CW_fr hC hk (fun q h y => hDJ.1 q h y)
        have hO := OP_fr hO hk hDJ.2.2.1
        have hGP := GP_fr hGP hk hgz
        have hSW := hSW0.behind hbl hAb hS
        have hid0 := send_id (RF := RF2) (g := c2) (nx := fa (insF (insF (F2) (0) (c2)) (0) (c2 + 1)) (n + 1 + 1) (0 + 1 + 1)) (fun k a b9 => RF_ne hJ ⟨a, b9⟩ (by omega))
        have hJ8 := INV_ext (INV_take hJ2 ⟨by omega, by omega, (ins_at1 F2 (0) c2 (c2 + 1))⟩) hid0
        have hC2 := CW_RF hC2 hid0
        rw [rem_ins1, show n + 1 + 1 - 1 = n + 1 by omega] at hC2 hJ8
        refine lv_iload_n hx hb dL_passing_117 rfl (lv_at hl 4 rfl) ?_
        refine lv_iload_n hx hb dL_passing_118 rfl (lv_at hl 3 rfl) ?_
        refine pv_iadd hx hb dL_passing_119 ?_
        refine pv_iconst hx hb dL_passing_120 ?_
        refine pv_isub hx hb dL_passing_121 ?_
        refine lv_iload hx hb dL_passing_122 (lv_at hl 0 rfl) ?_
        refine pv_isub hx hb dL_passing_124 ?_
        refine pv_nesame (tgt := 132) hx hb dL_passing_125 (by decide) (by omega) ?_
        refine pv_iconst hx hb dL_passing_128 ?_
        refine lv_goto (tgt := 133) hx hb dL_passing_129 (by decide) ?_
        refine lv_istore (lv' := [(5, .int (iI (1))), (6, .int (iI (0))), (4, .ref g), (3, .int (iI (2))), (2, .int (iI (n))), (0, .ref z0), (1, .int (iI (z)))]) hx hb dL_passing_133 hl (by decide) rfl (fun ls hl => ?_)
        refine pv_iinc (lv' := [(6, .int (iI (1))), (5, .int (iI (1))), (4, .ref g), (3, .int (iI (2))), (2, .int (iI (n))), (0, .ref z0), (1, .int (iI (z)))]) hx hb dL_passing_135 hl (k := 1) rfl (by decide) rfl (fun ls hl => ?_)
        refine lv_goto (tgt := 79) hx hb dL_passing_138 (by decide) ?_
        refine lv_iload hx hb dL_passing_79 (lv_at hl 0 rfl) ?_
        refine lv_iload_n hx hb dL_passing_81 rfl (lv_at hl 3 rfl) ?_
        refine pv_icmp_ge (tgt := 141) hx hb dL_passing_82 (by decide) (by omega) (fun c9 => False.elim (by omega)) (fun _ => ?_)
        refine lv_iload_n hx hb dL_passing_85 rfl (lv_at hl 4 rfl) ?_
        refine lv_iload_n hx hb dL_passing_86 rfl (lv_at hl 3 rfl) ?_
        refine pv_iadd hx hb dL_passing_87 ?_
        refine pv_bipush hx hb dL_passing_88 (by decide +kernel) ?_
        refine pv_icmp_gt (tgt := 141) hx hb dL_passing_90 (by decide) (by omega) (fun c9 => False.elim (by omega)) (fun _ => ?_)
        refine lv_iload hx hb dL_passing_93 (lv_at hl 1 rfl) ?_
        refine pv_if_eq (tgt := 132) hx hb dL_passing_95 (by decide) (by omega) (fun c9 => False.elim (by omega)) (fun _ => ?_)
        refine lv_aload hx hb dL_passing_98 (lv_at hl 2 rfl) ?_
        refine lv_iload hx hb dL_passing_100 (lv_at hl 0 rfl) ?_
        refine pv_ald1 (i := 1) (v := c2 + 1) hx hb hK hGP (by omega) (by decide) (by simp [upd]) dL_passing_102 ?_
        refine pv_if_lt (tgt := 132) hx hb dL_passing_103 (by decide) (by omega) (fun c9 => False.elim (by omega)) (fun _ => ?_)
        refine lv_aload_n hx hb dL_passing_106 rfl (lv_at hl 5 rfl) ?_
        refine pv_iconst hx hb dL_passing_107 ?_
        refine lv_aload hx hb dL_passing_108 (lv_at hl 2 rfl) ?_
        refine lv_iload hx hb dL_passing_110 (lv_at hl 0 rfl) ?_
        refine pv_ald1 (i := 1) (v := c2 + 1) hx hb hK hGP (by omega) (by decide) (by simp [upd]) dL_passing_112 ?_
        refine pv_iconst hx hb dL_passing_113 ?_
        refine wr_call (As := [.ref z0, .int (iI (2)), .int (iI (c2 + 1)), .int (iI (0))]) (rest := []) CP_mv ⟨hx, hb, hml, hown, hts⟩ (d_takeOut l D cI base st Z z0 z1 z2 z5 z6 z7 hJ8.1 hJ8.2.2.1 (INV_RF hJ8) (c2 + 1) (by omega) (0) (PL_kx hJ8 (by omega) (ins_at F2 (0) (c2 + 1))) (by omega) 0) (vx_cwSW 4 hts gL_passing_L_done rfl rfl rfl (by decide +kernel) ⟨(Nat.le_of_ble_eq_true rfl), (Nat.le_of_ble_eq_true rfl)⟩) ⟨hSW, hC2⟩ rfl rfl hl.1 (Nat.le_of_ble_eq_true rfl) dL_passing_114 ⟨(Nat.le_of_ble_eq_true rfl), (Nat.le_of_ble_eq_true rfl)⟩ hS (fun q h => Or.inl h) (fun H locs hP2 hz hk hS => ?_)
        have hC2 : CW D cI base z0 z1 z2 z5 z6 z7 (n + 1 - 1) (c2 + 1 + 1) (M2 + dm0 + dm1) (remF (insF F2 (0) (c2 + 1)) (0)) (remF (remF G9 (0 + 1)) (0)) SP9 (sendF RF2 (c2 + 1) (fa (insF F2 (0) (c2 + 1)) (n + 1) (0 + 1))) RC2 H := hP2
        have hC := CW_fr hC hk (fun q h y => hDJ.1 q h y)
        have hO := OP_fr hO hk hDJ.2.2.1
        have hGP := GP_fr hGP hk hgz
        have hSW := hSW0.behind hbl hAb hS
        have hid1 := send_id (RF := RF2) (g := c2 + 1) (nx := fa (insF F2 (0) (c2 + 1)) (n + 1) (0 + 1)) (fun k a b9 => RF_ne hJ ⟨a, b9⟩ (by omega))
        have hJ9 := INV_ext (INV_take hJ8 ⟨by omega, by omega, (ins_at F2 (0) (c2 + 1))⟩) hid1
        have hC2 := CW_RF hC2 hid1
        rw [rem_ins, show n + 1 - 1 = n by omega] at hC2 hJ9
        refine lv_iload_n hx hb dL_passing_117 rfl (lv_at hl 4 rfl) ?_
        refine lv_iload_n hx hb dL_passing_118 rfl (lv_at hl 3 rfl) ?_
        refine pv_iadd hx hb dL_passing_119 ?_
        refine pv_iconst hx hb dL_passing_120 ?_
        refine pv_isub hx hb dL_passing_121 ?_
        refine lv_iload hx hb dL_passing_122 (lv_at hl 0 rfl) ?_
        refine pv_isub hx hb dL_passing_124 ?_
        refine pv_nesame (tgt := 132) hx hb dL_passing_125 (by decide) (by omega) ?_
        refine pv_iconst hx hb dL_passing_128 ?_
        refine lv_goto (tgt := 133) hx hb dL_passing_129 (by decide) ?_
        refine lv_istore (lv' := [(5, .int (iI (1))), (6, .int (iI (1))), (4, .ref g), (3, .int (iI (2))), (2, .int (iI (n))), (0, .ref z0), (1, .int (iI (z)))]) hx hb dL_passing_133 hl (by decide) rfl (fun ls hl => ?_)
        refine pv_iinc (lv' := [(6, .int (iI (2))), (5, .int (iI (1))), (4, .ref g), (3, .int (iI (2))), (2, .int (iI (n))), (0, .ref z0), (1, .int (iI (z)))]) hx hb dL_passing_135 hl (k := 1) rfl (by decide) rfl (fun ls hl => ?_)
        refine lv_goto (tgt := 79) hx hb dL_passing_138 (by decide) ?_
        refine lv_iload hx hb dL_passing_79 (lv_at hl 0 rfl) ?_
        refine lv_iload_n hx hb dL_passing_81 rfl (lv_at hl 3 rfl) ?_
        refine pv_icmp_ge (tgt := 141) hx hb dL_passing_82 (by decide) (by omega) (fun _ => ?_) (fun c9 => False.elim (by omega))
        refine lv_iload hx hb dL_passing_141 (lv_at hl 1 rfl) ?_
        refine pv_if_eq (tgt := 158) hx hb dL_passing_143 (by decide) (by omega) (fun c9 => False.elim (by omega)) (fun _ => ?_)
        refine lv_aload_n hx hb dL_passing_146 rfl (lv_at hl 5 rfl) ?_
        refine pu_callV (v := n) (As := []) (rest := []) CP_mv ⟨hx, hb, hml, hown, hts⟩ (c_size l D cI base st Z z0 z1 z2 z5 z6 z7 hn) (cwV 0 hts gL_passing_X0_size rfl rfl rfl (by decide +kernel) ⟨(Nat.le_of_ble_eq_true rfl), (Nat.le_of_ble_eq_true rfl)⟩) ⟨hSW, hC2⟩ (CP_rc ⟨hSW, hC2⟩) rfl rfl hl.1 (Nat.le_of_ble_eq_true rfl) dL_passing_147 ⟨(Nat.le_of_ble_eq_true rfl), (Nat.le_of_ble_eq_true rfl)⟩ ?_
        refine lv_iload_n hx hb dL_passing_150 rfl (lv_at hl 4 rfl) ?_
        refine pv_nesame (tgt := 158) hx hb dL_passing_151 (by decide) (rfl) ?_
        refine pv_iconst hx hb dL_passing_154 ?_
        refine lv_goto (tgt := 159) hx hb dL_passing_155 (by decide) ?_
        refine W.widen (k := 1) (n := 2) (by omega) (by omega) ?_
        exact nw_zret hx hb hr hlocks hS dL_passing_159 rfl (Or.inr rfl) ⟨_, _, _, _, _, _, _, _, _, _, _, _, _, _, _, _, hC, hC2, hO, hI, hJ9, hR, by omega, by omega, by omega⟩
      · obtain ⟨v, hv9⟩ : ∃ y, y = z / 4 % n := ⟨_, rfl⟩
        have hv : 0 ≤ v ∧ v < n := by rw [hv9]; exact ⟨Int.emod_nonneg _ hn0, Int.emod_lt_of_pos _ (by omega)⟩
        refine pv_icmp_gt (tgt := 73) hx hb dL_passing_30 (by decide) (by omega) (fun c9 => False.elim (by omega)) (fun _ => ?_)
        obtain ⟨G8, dm0, SP8, hPT0⟩ := PT_ex (G2) (n) (v + 1) (SP2)
        have hJ1 := INV_put hJ (by omega) (by omega) (show 0 ≤ v + 1 ∧ v + 1 ≤ n by omega) hPT0
        refine lv_aload hx hb dL_passing_33 (lv_at hl 1 rfl) ?_
        refine lv_iload hx hb dL_passing_35 (lv_at hl 0 rfl) ?_
        refine lv_iload_n hx hb dL_passing_37 rfl (lv_at hl 3 rfl) ?_
        refine pv_if_ne (tgt := 51) hx hb dL_passing_38 (by decide) (by omega) (fun _ => ?_) (fun c9 => False.elim (by omega))
        refine lv_aload_n hx hb dL_passing_51 rfl (lv_at hl 4 rfl) ?_
        refine pv_iconst hx hb dL_passing_52 ?_
        refine lv_aload_n hx hb dL_passing_53 rfl (lv_at hl 4 rfl) ?_
        refine lv_iload_n hx hb dL_passing_54 rfl (lv_at hl 5 rfl) ?_
        refine pv_iconst hx hb dL_passing_55 ?_
        refine pv_idiv hx hb dL_passing_56 (by omega) (by omega) ?_
        refine lv_iload_n hx hb dL_passing_57 rfl (lv_at hl 3 rfl) ?_
        refine pv_irem hx hb dL_passing_58 (by omega) (by omega) ?_
        rw [show iI ((z / 4) % n) = iI (v) from congrArg iI (hv9.symm)]
        refine pu_callS (v := (F2) v) (As := [.ref z0, .int (iI (v))]) (rest := [.int (iI (1)), .ref z0, .int (iI (0)), .ref g]) CP_mv ⟨hx, hb, hml, hown, hts⟩ (f_at l D cI base st Z z0 z1 z2 z5 z6 z7 hJ v (by omega)) (va_cwS 2 hts gL_passing_L_folderAt rfl rfl rfl (by decide +kernel) ⟨(Nat.le_of_ble_eq_true rfl), (Nat.le_of_ble_eq_true rfl)⟩) ⟨hSW, hC2⟩ rfl rfl hl.1 (Nat.le_of_ble_eq_true rfl) dL_passing_59 ⟨(Nat.le_of_ble_eq_true rfl), (Nat.le_of_ble_eq_true rfl)⟩ ?_
        refine pv_iconst hx hb dL_passing_62 ?_
        have hxv := hJ.2.2.1 v (by omega) (by omega)
        refine wr_call (As := [.ref z0, .int (iI (1)), .int (iI ((F2) v)), .int (iI (0))]) (rest := [.int (iI (0)), .ref g]) CP_mv ⟨hx, hb, hml, hown, hts⟩ (d_putBehind l D cI base st Z z0 z1 z2 z5 z6 z7 (by omega) hJ.2.2.1 hJ.2.2.2.2.2.1 hJ.2.2.2.2.2.2.1 (by omega) ((F2) v) (by omega) v (PL_k hJ (by omega)) hv.1 G8 dm0 SP8 hPT0 0) (vx_cwSW 4 hts gL_passing_L_done rfl rfl rfl (by decide +kernel) ⟨(Nat.le_of_ble_eq_true rfl), (Nat.le_of_ble_eq_true rfl)⟩) ⟨hSW, hC2⟩ rfl rfl hl.1 (Nat.le_of_ble_eq_true rfl) dL_passing_63 ⟨(Nat.le_of_ble_eq_true rfl), (Nat.le_of_ble_eq_true rfl)⟩ hS (fun q h => Or.inl h) (fun H locs hP2 hz hk hS => ?_)
        have hC2 : CW D cI base z0 z1 z2 z5 z6 z7 (n + 1) (c2 + 1) (M2 + dm0) (insF (F2) (v + 1) (c2)) G8 SP8 RF2 RC2 H := hP2
        have hC := CW_fr hC hk (fun q h y => hDJ.1 q h y)
        have hO := OP_fr hO hk hDJ.2.2.1
        have hGP := GP_fr hGP hk hgz
        have hSW := hSW0.behind hbl hAb hS
        refine pv_ast1 (i := 0) (v := c2) hx hb hK hGP hS (Or.inr hgb) (by omega) (by decide) dL_passing_66 (fun H locs hGP hz hk hS => ?_)
        have hC := CW_fr (A := fun q => q = g) hC hk (fun q h y => hgx (y ▸ h))
        have hC2 := CW_fr (A := fun q => q = g) hC2 hk (fun q h y => hgz (y ▸ h))
        have hO := OP_fr (A := fun q => q = g) hO hk (fun y => hgp y.symm)
        have hSW := hSW0.behind hbl hAb hS
        refine pv_iinc (lv' := [(5, .int (iI (1))), (4, .ref g), (3, .int (iI (2))), (2, .int (iI (n))), (0, .ref z0), (1, .int (iI (z)))]) hx hb dL_passing_67 hl (k := 0) rfl (by decide) rfl (fun ls hl => ?_)
        refine lv_goto (tgt := 19) hx hb dL_passing_70 (by decide) ?_
        refine lv_iload hx hb dL_passing_19 (lv_at hl 0 rfl) ?_
        refine lv_iload_n hx hb dL_passing_21 rfl (lv_at hl 2 rfl) ?_
        refine pv_icmp_ge (tgt := 73) hx hb dL_passing_22 (by decide) (by omega) (fun c9 => False.elim (by omega)) (fun _ => ?_)
        refine lv_iload_n hx hb dL_passing_25 rfl (lv_at hl 3 rfl) ?_
        refine lv_iload_n hx hb dL_passing_26 rfl (lv_at hl 2 rfl) ?_
        refine pv_iadd hx hb dL_passing_27 ?_
        refine pv_bipush hx hb dL_passing_28 (by decide +kernel) ?_
        refine pv_icmp_gt (tgt := 73) hx hb dL_passing_30 (by decide) (by omega) (fun c9 => False.elim (by omega)) (fun _ => ?_)
        obtain ⟨G9, dm1, SP9, hPT1⟩ := PT_ex (G8) (n + 1) (v + 1) (SP8)
        have hJ2 := INV_put hJ1 (by omega) (by omega) (show 0 ≤ v + 1 ∧ v + 1 ≤ n + 1 by omega) hPT1
        refine lv_aload hx hb dL_passing_33 (lv_at hl 1 rfl) ?_
        refine lv_iload hx hb dL_passing_35 (lv_at hl 0 rfl) ?_
        refine lv_iload_n hx hb dL_passing_37 rfl (lv_at hl 3 rfl) ?_
        refine pv_if_ne (tgt := 51) hx hb dL_passing_38 (by decide) (by omega) (fun _ => ?_) (fun c9 => False.elim (by omega))
        refine lv_aload_n hx hb dL_passing_51 rfl (lv_at hl 4 rfl) ?_
        refine pv_iconst hx hb dL_passing_52 ?_
        refine lv_aload_n hx hb dL_passing_53 rfl (lv_at hl 4 rfl) ?_
        refine lv_iload_n hx hb dL_passing_54 rfl (lv_at hl 5 rfl) ?_
        refine pv_iconst hx hb dL_passing_55 ?_
        refine pv_idiv hx hb dL_passing_56 (by omega) (by omega) ?_
        refine lv_iload_n hx hb dL_passing_57 rfl (lv_at hl 3 rfl) ?_
        refine pv_irem hx hb dL_passing_58 (by omega) (by omega) ?_
        rw [show iI ((z / 4) % n) = iI (v) from congrArg iI (hv9.symm)]
        refine pu_callS (v := (insF (F2) (v + 1) (c2)) v) (As := [.ref z0, .int (iI (v))]) (rest := [.int (iI (1)), .ref z0, .int (iI (1)), .ref g]) CP_mv ⟨hx, hb, hml, hown, hts⟩ (f_at l D cI base st Z z0 z1 z2 z5 z6 z7 hJ1 v (by omega)) (va_cwS 2 hts gL_passing_L_folderAt rfl rfl rfl (by decide +kernel) ⟨(Nat.le_of_ble_eq_true rfl), (Nat.le_of_ble_eq_true rfl)⟩) ⟨hSW, hC2⟩ rfl rfl hl.1 (Nat.le_of_ble_eq_true rfl) dL_passing_59 ⟨(Nat.le_of_ble_eq_true rfl), (Nat.le_of_ble_eq_true rfl)⟩ ?_
        refine pv_iconst hx hb dL_passing_62 ?_
        have hxv := hJ1.2.2.1 v (by omega) (by omega)
        refine wr_call (As := [.ref z0, .int (iI (1)), .int (iI ((insF (F2) (v + 1) (c2)) v)), .int (iI (0))]) (rest := [.int (iI (1)), .ref g]) CP_mv ⟨hx, hb, hml, hown, hts⟩ (d_putBehind l D cI base st Z z0 z1 z2 z5 z6 z7 (by omega) hJ1.2.2.1 hJ1.2.2.2.2.2.1 hJ1.2.2.2.2.2.2.1 (by omega) ((insF (F2) (v + 1) (c2)) v) (by omega) v (PL_k hJ1 (by omega)) hv.1 G9 dm1 SP9 hPT1 0) (vx_cwSW 4 hts gL_passing_L_done rfl rfl rfl (by decide +kernel) ⟨(Nat.le_of_ble_eq_true rfl), (Nat.le_of_ble_eq_true rfl)⟩) ⟨hSW, hC2⟩ rfl rfl hl.1 (Nat.le_of_ble_eq_true rfl) dL_passing_63 ⟨(Nat.le_of_ble_eq_true rfl), (Nat.le_of_ble_eq_true rfl)⟩ hS (fun q h => Or.inl h) (fun H locs hP2 hz hk hS => ?_)
        have hC2 : CW D cI base z0 z1 z2 z5 z6 z7 (n + 1 + 1) (c2 + 1 + 1) (M2 + dm0 + dm1) (insF (insF (F2) (v + 1) (c2)) (v + 1) (c2 + 1)) G9 SP9 RF2 RC2 H := hP2
        have hC := CW_fr hC hk (fun q h y => hDJ.1 q h y)
        have hO := OP_fr hO hk hDJ.2.2.1
        have hGP := GP_fr hGP hk hgz
        have hSW := hSW0.behind hbl hAb hS
        refine pv_ast1 (i := 1) (v := c2 + 1) hx hb hK hGP hS (Or.inr hgb) (by omega) (by decide) dL_passing_66 (fun H locs hGP hz hk hS => ?_)
        have hC := CW_fr (A := fun q => q = g) hC hk (fun q h y => hgx (y ▸ h))
        have hC2 := CW_fr (A := fun q => q = g) hC2 hk (fun q h y => hgz (y ▸ h))
        have hO := OP_fr (A := fun q => q = g) hO hk (fun y => hgp y.symm)
        have hSW := hSW0.behind hbl hAb hS
        refine pv_iinc (lv' := [(5, .int (iI (2))), (4, .ref g), (3, .int (iI (2))), (2, .int (iI (n))), (0, .ref z0), (1, .int (iI (z)))]) hx hb dL_passing_67 hl (k := 0) rfl (by decide) rfl (fun ls hl => ?_)
        refine lv_goto (tgt := 19) hx hb dL_passing_70 (by decide) ?_
        refine lv_iload hx hb dL_passing_19 (lv_at hl 0 rfl) ?_
        refine lv_iload_n hx hb dL_passing_21 rfl (lv_at hl 2 rfl) ?_
        refine pv_icmp_ge (tgt := 73) hx hb dL_passing_22 (by decide) (by omega) (fun _ => ?_) (fun c9 => False.elim (by omega))
        refine pv_iconst hx hb dL_passing_73 ?_
        refine lv_istore (lv' := [(5, .int (iI (1))), (4, .ref g), (3, .int (iI (2))), (2, .int (iI (n))), (0, .ref z0), (1, .int (iI (z)))]) hx hb dL_passing_74 hl (by decide) rfl (fun ls hl => ?_)
        refine pv_iconst hx hb dL_passing_76 ?_
        refine lv_istore (lv' := [(6, .int (iI (0))), (5, .int (iI (1))), (4, .ref g), (3, .int (iI (2))), (2, .int (iI (n))), (0, .ref z0), (1, .int (iI (z)))]) hx hb dL_passing_77 hl (by decide) rfl (fun ls hl => ?_)
        refine lv_iload hx hb dL_passing_79 (lv_at hl 0 rfl) ?_
        refine lv_iload_n hx hb dL_passing_81 rfl (lv_at hl 3 rfl) ?_
        refine pv_icmp_ge (tgt := 141) hx hb dL_passing_82 (by decide) (by omega) (fun c9 => False.elim (by omega)) (fun _ => ?_)
        refine lv_iload_n hx hb dL_passing_85 rfl (lv_at hl 4 rfl) ?_
        refine lv_iload_n hx hb dL_passing_86 rfl (lv_at hl 3 rfl) ?_
        refine pv_iadd hx hb dL_passing_87 ?_
        refine pv_bipush hx hb dL_passing_88 (by decide +kernel) ?_
        refine pv_icmp_gt (tgt := 141) hx hb dL_passing_90 (by decide) (by omega) (fun c9 => False.elim (by omega)) (fun _ => ?_)
        refine lv_iload hx hb dL_passing_93 (lv_at hl 1 rfl) ?_
        refine pv_if_eq (tgt := 132) hx hb dL_passing_95 (by decide) (by omega) (fun c9 => False.elim (by omega)) (fun _ => ?_)
        refine lv_aload hx hb dL_passing_98 (lv_at hl 2 rfl) ?_
        refine lv_iload hx hb dL_passing_100 (lv_at hl 0 rfl) ?_
        refine pv_ald1 (i := 0) (v := c2) hx hb hK hGP (by omega) (by decide) (by simp [upd]) dL_passing_102 ?_
        refine pv_if_lt (tgt := 132) hx hb dL_passing_103 (by decide) (by omega) (fun c9 => False.elim (by omega)) (fun _ => ?_)
        refine lv_aload_n hx hb dL_passing_106 rfl (lv_at hl 5 rfl) ?_
        refine pv_iconst hx hb dL_passing_107 ?_
        refine lv_aload hx hb dL_passing_108 (lv_at hl 2 rfl) ?_
        refine lv_iload hx hb dL_passing_110 (lv_at hl 0 rfl) ?_
        refine pv_ald1 (i := 0) (v := c2) hx hb hK hGP (by omega) (by decide) (by simp [upd]) dL_passing_112 ?_
        refine pv_iconst hx hb dL_passing_113 ?_
        refine wr_call (As := [.ref z0, .int (iI (2)), .int (iI (c2)), .int (iI (0))]) (rest := []) CP_mv ⟨hx, hb, hml, hown, hts⟩ (d_takeOut l D cI base st Z z0 z1 z2 z5 z6 z7 hJ2.1 hJ2.2.2.1 (INV_RF hJ2) (c2) (by omega) (v + 1 + 1) (PL_kx hJ2 (by omega) (ins_at1 F2 (v + 1) c2 (c2 + 1))) (by omega) 0) (vx_cwSW 4 hts gL_passing_L_done rfl rfl rfl (by decide +kernel) ⟨(Nat.le_of_ble_eq_true rfl), (Nat.le_of_ble_eq_true rfl)⟩) ⟨hSW, hC2⟩ rfl rfl hl.1 (Nat.le_of_ble_eq_true rfl) dL_passing_114 ⟨(Nat.le_of_ble_eq_true rfl), (Nat.le_of_ble_eq_true rfl)⟩ hS (fun q h => Or.inl h) (fun H locs hP2 hz hk hS => ?_)
        have hC2 : CW D cI base z0 z1 z2 z5 z6 z7 (n + 1 + 1 - 1) (c2 + 1 + 1) (M2 + dm0 + dm1) (remF (insF (insF (F2) (v + 1) (c2)) (v + 1) (c2 + 1)) (v + 1 + 1)) (remF G9 (v + 1 + 1)) SP9 (sendF RF2 (c2) (fa (insF (insF (F2) (v + 1) (c2)) (v + 1) (c2 + 1)) (n + 1 + 1) (v + 1 + 1 + 1))) RC2 H := hP2
        have hC := CW_fr hC hk (fun q h y => hDJ.1 q h y)
        have hO := OP_fr hO hk hDJ.2.2.1
        have hGP := GP_fr hGP hk hgz
        have hSW := hSW0.behind hbl hAb hS
        have hid0 := send_id (RF := RF2) (g := c2) (nx := fa (insF (insF (F2) (v + 1) (c2)) (v + 1) (c2 + 1)) (n + 1 + 1) (v + 1 + 1 + 1)) (fun k a b9 => RF_ne hJ ⟨a, b9⟩ (by omega))
        have hJ8 := INV_ext (INV_take hJ2 ⟨by omega, by omega, (ins_at1 F2 (v + 1) c2 (c2 + 1))⟩) hid0
        have hC2 := CW_RF hC2 hid0
        rw [rem_ins1, show n + 1 + 1 - 1 = n + 1 by omega] at hC2 hJ8
        refine lv_iload_n hx hb dL_passing_117 rfl (lv_at hl 4 rfl) ?_
        refine lv_iload_n hx hb dL_passing_118 rfl (lv_at hl 3 rfl) ?_
        refine pv_iadd hx hb dL_passing_119 ?_
        refine pv_iconst hx hb dL_passing_120 ?_
        refine pv_isub hx hb dL_passing_121 ?_
        refine lv_iload hx hb dL_passing_122 (lv_at hl 0 rfl) ?_
        refine pv_isub hx hb dL_passing_124 ?_
        refine pv_nesame (tgt := 132) hx hb dL_passing_125 (by decide) (by omega) ?_
        refine pv_iconst hx hb dL_passing_128 ?_
        refine lv_goto (tgt := 133) hx hb dL_passing_129 (by decide) ?_
        refine lv_istore (lv' := [(5, .int (iI (1))), (6, .int (iI (0))), (4, .ref g), (3, .int (iI (2))), (2, .int (iI (n))), (0, .ref z0), (1, .int (iI (z)))]) hx hb dL_passing_133 hl (by decide) rfl (fun ls hl => ?_)
        refine pv_iinc (lv' := [(6, .int (iI (1))), (5, .int (iI (1))), (4, .ref g), (3, .int (iI (2))), (2, .int (iI (n))), (0, .ref z0), (1, .int (iI (z)))]) hx hb dL_passing_135 hl (k := 1) rfl (by decide) rfl (fun ls hl => ?_)
        refine lv_goto (tgt := 79) hx hb dL_passing_138 (by decide) ?_
        refine lv_iload hx hb dL_passing_79 (lv_at hl 0 rfl) ?_
        refine lv_iload_n hx hb dL_passing_81 rfl (lv_at hl 3 rfl) ?_
        refine pv_icmp_ge (tgt := 141) hx hb dL_passing_82 (by decide) (by omega) (fun c9 => False.elim (by omega)) (fun _ => ?_)
        refine lv_iload_n hx hb dL_passing_85 rfl (lv_at hl 4 rfl) ?_
        refine lv_iload_n hx hb dL_passing_86 rfl (lv_at hl 3 rfl) ?_
        refine pv_iadd hx hb dL_passing_87 ?_
        refine pv_bipush hx hb dL_passing_88 (by decide +kernel) ?_
        refine pv_icmp_gt (tgt := 141) hx hb dL_passing_90 (by decide) (by omega) (fun c9 => False.elim (by omega)) (fun _ => ?_)
        refine lv_iload hx hb dL_passing_93 (lv_at hl 1 rfl) ?_
        refine pv_if_eq (tgt := 132) hx hb dL_passing_95 (by decide) (by omega) (fun c9 => False.elim (by omega)) (fun _ => ?_)
        refine lv_aload hx hb dL_passing_98 (lv_at hl 2 rfl) ?_
        refine lv_iload hx hb dL_passing_100 (lv_at hl 0 rfl) ?_
        refine pv_ald1 (i := 1) (v := c2 + 1) hx hb hK hGP (by omega) (by decide) (by simp [upd]) dL_passing_102 ?_
        refine pv_if_lt (tgt := 132) hx hb dL_passing_103 (by decide) (by omega) (fun c9 => False.elim (by omega)) (fun _ => ?_)
        refine lv_aload_n hx hb dL_passing_106 rfl (lv_at hl 5 rfl) ?_
        refine pv_iconst hx hb dL_passing_107 ?_
        refine lv_aload hx hb dL_passing_108 (lv_at hl 2 rfl) ?_
        refine lv_iload hx hb dL_passing_110 (lv_at hl 0 rfl) ?_
        refine pv_ald1 (i := 1) (v := c2 + 1) hx hb hK hGP (by omega) (by decide) (by simp [upd]) dL_passing_112 ?_
        refine pv_iconst hx hb dL_passing_113 ?_
        refine wr_call (As := [.ref z0, .int (iI (2)), .int (iI (c2 + 1)), .int (iI (0))]) (rest := []) CP_mv ⟨hx, hb, hml, hown, hts⟩ (d_takeOut l D cI base st Z z0 z1 z2 z5 z6 z7 hJ8.1 hJ8.2.2.1 (INV_RF hJ8) (c2 + 1) (by omega) (v + 1) (PL_kx hJ8 (by omega) (ins_at F2 (v + 1) (c2 + 1))) (by omega) 0) (vx_cwSW 4 hts gL_passing_L_done rfl rfl rfl (by decide +kernel) ⟨(Nat.le_of_ble_eq_true rfl), (Nat.le_of_ble_eq_true rfl)⟩) ⟨hSW, hC2⟩ rfl rfl hl.1 (Nat.le_of_ble_eq_true rfl) dL_passing_114 ⟨(Nat.le_of_ble_eq_true rfl), (Nat.le_of_ble_eq_true rfl)⟩ hS (fun q h => Or.inl h) (fun H locs hP2 hz hk hS => ?_)
        have hC2 : CW D cI base z0 z1 z2 z5 z6 z7 (n + 1 - 1) (c2 + 1 + 1) (M2 + dm0 + dm1) (remF (insF F2 (v + 1) (c2 + 1)) (v + 1)) (remF (remF G9 (v + 1 + 1)) (v + 1)) SP9 (sendF RF2 (c2 + 1) (fa (insF F2 (v + 1) (c2 + 1)) (n + 1) (v + 1 + 1))) RC2 H := hP2
        have hC := CW_fr hC hk (fun q h y => hDJ.1 q h y)
        have hO := OP_fr hO hk hDJ.2.2.1
        have hGP := GP_fr hGP hk hgz
        have hSW := hSW0.behind hbl hAb hS
        have hid1 := send_id (RF := RF2) (g := c2 + 1) (nx := fa (insF F2 (v + 1) (c2 + 1)) (n + 1) (v + 1 + 1)) (fun k a b9 => RF_ne hJ ⟨a, b9⟩ (by omega))
        have hJ9 := INV_ext (INV_take hJ8 ⟨by omega, by omega, (ins_at F2 (v + 1) (c2 + 1))⟩) hid1
        have hC2 := CW_RF hC2 hid1
        rw [rem_ins, show n + 1 - 1 = n by omega] at hC2 hJ9
        refine lv_iload_n hx hb dL_passing_117 rfl (lv_at hl 4 rfl) ?_
        refine lv_iload_n hx hb dL_passing_118 rfl (lv_at hl 3 rfl) ?_
        refine pv_iadd hx hb dL_passing_119 ?_
        refine pv_iconst hx hb dL_passing_120 ?_
        refine pv_isub hx hb dL_passing_121 ?_
        refine lv_iload hx hb dL_passing_122 (lv_at hl 0 rfl) ?_
        refine pv_isub hx hb dL_passing_124 ?_
        refine pv_nesame (tgt := 132) hx hb dL_passing_125 (by decide) (by omega) ?_
        refine pv_iconst hx hb dL_passing_128 ?_
        refine lv_goto (tgt := 133) hx hb dL_passing_129 (by decide) ?_
        refine lv_istore (lv' := [(5, .int (iI (1))), (6, .int (iI (1))), (4, .ref g), (3, .int (iI (2))), (2, .int (iI (n))), (0, .ref z0), (1, .int (iI (z)))]) hx hb dL_passing_133 hl (by decide) rfl (fun ls hl => ?_)
        refine pv_iinc (lv' := [(6, .int (iI (2))), (5, .int (iI (1))), (4, .ref g), (3, .int (iI (2))), (2, .int (iI (n))), (0, .ref z0), (1, .int (iI (z)))]) hx hb dL_passing_135 hl (k := 1) rfl (by decide) rfl (fun ls hl => ?_)
        refine lv_goto (tgt := 79) hx hb dL_passing_138 (by decide) ?_
        refine lv_iload hx hb dL_passing_79 (lv_at hl 0 rfl) ?_
        refine lv_iload_n hx hb dL_passing_81 rfl (lv_at hl 3 rfl) ?_
        refine pv_icmp_ge (tgt := 141) hx hb dL_passing_82 (by decide) (by omega) (fun _ => ?_) (fun c9 => False.elim (by omega))
        refine lv_iload hx hb dL_passing_141 (lv_at hl 1 rfl) ?_
        refine pv_if_eq (tgt := 158) hx hb dL_passing_143 (by decide) (by omega) (fun c9 => False.elim (by omega)) (fun _ => ?_)
        refine lv_aload_n hx hb dL_passing_146 rfl (lv_at hl 5 rfl) ?_
        refine pu_callV (v := n) (As := []) (rest := []) CP_mv ⟨hx, hb, hml, hown, hts⟩ (c_size l D cI base st Z z0 z1 z2 z5 z6 z7 hn) (cwV 0 hts gL_passing_X0_size rfl rfl rfl (by decide +kernel) ⟨(Nat.le_of_ble_eq_true rfl), (Nat.le_of_ble_eq_true rfl)⟩) ⟨hSW, hC2⟩ (CP_rc ⟨hSW, hC2⟩) rfl rfl hl.1 (Nat.le_of_ble_eq_true rfl) dL_passing_147 ⟨(Nat.le_of_ble_eq_true rfl), (Nat.le_of_ble_eq_true rfl)⟩ ?_
        refine lv_iload_n hx hb dL_passing_150 rfl (lv_at hl 4 rfl) ?_
        refine pv_nesame (tgt := 158) hx hb dL_passing_151 (by decide) (rfl) ?_
        refine pv_iconst hx hb dL_passing_154 ?_
        refine lv_goto (tgt := 159) hx hb dL_passing_155 (by decide) ?_
        refine W.widen (k := 1) (n := 2) (by omega) (by omega) ?_
        exact nw_zret hx hb hr hlocks hS dL_passing_159 rfl (Or.inr rfl) ⟨_, _, _, _, _, _, _, _, _, _, _, _, _, _, _, _, hC, hC2, hO, hI, hJ9, hR, by omega, by omega, by omega⟩
    · skip
      refine pv_icmp_gt (tgt := 73) hx hb dL_passing_30 (by decide) (by omega) (fun _ => ?_) (fun c9 => False.elim (by omega))
      refine pv_iconst hx hb dL_passing_73 ?_
      refine lv_istore (lv' := [(5, .int (iI (1))), (4, .ref g), (3, .int (iI (2))), (2, .int (iI (n))), (0, .ref z0), (1, .int (iI (z)))]) hx hb dL_passing_74 hl (by decide) rfl (fun ls hl => ?_)
      refine pv_iconst hx hb dL_passing_76 ?_
      refine lv_istore (lv' := [(6, .int (iI (0))), (5, .int (iI (1))), (4, .ref g), (3, .int (iI (2))), (2, .int (iI (n))), (0, .ref z0), (1, .int (iI (z)))]) hx hb dL_passing_77 hl (by decide) rfl (fun ls hl => ?_)
      refine lv_iload hx hb dL_passing_79 (lv_at hl 0 rfl) ?_
      refine lv_iload_n hx hb dL_passing_81 rfl (lv_at hl 3 rfl) ?_
      refine pv_icmp_ge (tgt := 141) hx hb dL_passing_82 (by decide) (by omega) (fun c9 => False.elim (by omega)) (fun _ => ?_)
      refine lv_iload_n hx hb dL_passing_85 rfl (lv_at hl 4 rfl) ?_
      refine lv_iload_n hx hb dL_passing_86 rfl (lv_at hl 3 rfl) ?_
      refine pv_iadd hx hb dL_passing_87 ?_
      refine pv_bipush hx hb dL_passing_88 (by decide +kernel) ?_
      refine pv_icmp_gt (tgt := 141) hx hb dL_passing_90 (by decide) (by omega) (fun _ => ?_) (fun c9 => False.elim (by omega))
      refine lv_iload hx hb dL_passing_141 (lv_at hl 1 rfl) ?_
      refine pv_if_eq (tgt := 158) hx hb dL_passing_143 (by decide) (by omega) (fun c9 => False.elim (by omega)) (fun _ => ?_)
      refine lv_aload_n hx hb dL_passing_146 rfl (lv_at hl 5 rfl) ?_
      refine pu_callV (v := n) (As := []) (rest := []) CP_mv ⟨hx, hb, hml, hown, hts⟩ (c_size l D cI base st Z z0 z1 z2 z5 z6 z7 hn) (cwV 0 hts gL_passing_X0_size rfl rfl rfl (by decide +kernel) ⟨(Nat.le_of_ble_eq_true rfl), (Nat.le_of_ble_eq_true rfl)⟩) ⟨hSW, hC2⟩ (CP_rc ⟨hSW, hC2⟩) rfl rfl hl.1 (Nat.le_of_ble_eq_true rfl) dL_passing_147 ⟨(Nat.le_of_ble_eq_true rfl), (Nat.le_of_ble_eq_true rfl)⟩ ?_
      refine lv_iload_n hx hb dL_passing_150 rfl (lv_at hl 4 rfl) ?_
      refine pv_nesame (tgt := 158) hx hb dL_passing_151 (by decide) (rfl) ?_
      refine pv_iconst hx hb dL_passing_154 ?_
      refine lv_goto (tgt := 159) hx hb dL_passing_155 (by decide) ?_
      refine W.widen (k := 1) (n := 2) (by omega) (by omega) ?_
      exact nw_zret hx hb hr hlocks hS dL_passing_159 rfl (Or.inr rfl) ⟨_, _, _, _, _, _, _, _, _, _, _, _, _, _, _, _, hC, hC2, hO, hI, hJ, hR, by omega, by omega, by omega⟩
end
section
theorem arr_of {ty : FieldType} (hty : ∀ C, ty ≠ .object C) {args : Array Value} {s : State} (h : (Cond.arrayClass ty).before args s = true) : ∃ k : ClassId, ArrOfT s k ty ∧ va_RA s k ty := by
  obtain ⟨k, kA, comp, h1, h2, h3⟩ := Cond.arrayClass_spec h
  refine ⟨k, fun n z => ⟨fun k h => (by cases h), kA, h2, comp, h3⟩, ?_⟩
  cases ty with
  | object C => exact absurd rfl (hty C)
  | _ => exact h1
set_option maxHeartbeats 4000000 in
set_option maxRecDepth 100000 in
theorem law_loop {p : Program} {e : Env} {s : State} {m : MethodId} {below : List Frame} {meth : Method} {c : Code} (l : Launch) (hfl : l.stackTraces = false) {b L : Nat} {xs : Nat → Int32} (hL : L ≤ 260) (C0 : lw_At p s m meth c b L xs)
    {D : va_G} {cI : ClassId} {st : Nat} {Z : Nat → Nat} (hSW0 : SW D cI s.heap.size st Z s s.heap) (hnc1 : va_Nc "java/lang/IllegalArgumentException" "java/lang/IllegalStateException" s) (hnc2 : va_Nc "java/lang/IllegalArgumentException" "java/lang/IndexOutOfBoundsException" s)
    {x0 x1 x2 x5 x6 x7 z0 z1 z2 z5 z6 z7 pp : Nat} (hDJ : DJ s.heap.size x0 x1 x2 x5 x6 x7 z0 z1 z2 z5 z6 z7 pp) (hzb : ∀ q, mC z0 z1 z2 z5 z6 z7 q → s.heap.size ≤ q) (hxb : ∀ q, mC x0 x1 x2 x5 x6 x7 q → s.heap.size ≤ q) : ∀ (k t : Nat) (H : Heap) (ls : Array Slot), t ≤ 60 → 61 ≤ t + k → RW D cI s.heap.size x0 x1 x2 x5 x6 x7 z0 z1 z2 z5 z6 z7 pp ((t : Int)) (3 * (t : Int)) H → va_S (fun q : Nat => s.heap.size ≤ q) s.heap H [] → lv_has ls 7 [(0, .ref b), (1, .ref x0), (2, .ref z0), (3, .ref pp), (4, .int (iI (1))), (5, .int (iI ((t : Int))))] → W p l e room_1 s m #[Value.ref b] below meth c H [] (13 + 3 * t) (354 + 14 * t) (lw_Z below #[Value.ref b] s) (F0 m 27 ls []) := by
  obtain ⟨hx, hb, hr, hml, hown, hts0, hX, hbl, hlocks, hgv⟩ := id C0
  have hts : ∀ w ∈ wsL_law, w.before #[Value.ref b] s = true := fun w h => hts0 w (wsL_law_in w h)
  have hbA : ¬ (fun q : Nat => s.heap.size ≤ q) b := Nat.not_le.mpr hbl
  intro k
  induction k with
  | zero => intro t H ls h1 h2; exact absurd h2 (by omega)
  | succ k ih =>
    intro t H ls ht hk hW hS hl
    have hSW := hSW0.keep (fun q h => hS.2.1 q h (Nat.not_le.mpr h))
    refine lv_iload hx hb dL_law_27 (lv_at hl 5 rfl) ?_
    refine pv_bipush hx hb dL_law_29 (by decide +kernel) ?_
    by_cases h60 : t = 60
    · skip
      refine pv_icmp_ge (tgt := 99) hx hb dL_law_31 (by decide) (by omega) (fun _ => ?_) (fun c9 => False.elim (by omega))
      refine lv_iload hx hb dL_law_99 (lv_at hl 4 rfl) ?_
      refine W.widen (k := 649267) (n := 7153381) (by omega) (by omega) ?_
      rw [show iI 1 = 1 by decide +kernel]
      exact lw_ret hx hb hr hlocks dL_law_101
    · obtain ⟨z, hz, hv⟩ := iI_and (dr xs L (t : Int))
      refine pv_icmp_ge (tgt := 99) hx hb dL_law_31 (by decide) (by omega) (fun c9 => False.elim (by omega)) (fun _ => ?_)
      refine lv_iload hx hb dL_law_34 (lv_at hl 4 rfl) ?_
      refine pv_if_eq (tgt := 99) hx hb dL_law_36 (by decide) (by omega) (fun c9 => False.elim (by omega)) (fun _ => ?_)
      refine lv_aload_n hx hb dL_law_39 rfl (lv_at hl 0 rfl) ?_
      refine lv_iload hx hb dL_law_40 (lv_at hl 5 rfl) ?_
      refine pu_callS (v := z) (As := [.ref b, .int (iI ((t : Int)))]) (rest := []) XP_mv ⟨hx, hb, hml, hown, hts⟩ (l_drawn l b L xs hL (t : Int) (by omega) z hv) (va_cwS 2 hts gL_law_L_drawn rfl rfl rfl (by decide +kernel) ⟨(Nat.le_of_ble_eq_true rfl), (Nat.le_of_ble_eq_true rfl)⟩) (va_X.kept hX (hS.2.1 b hbl hbA)) rfl rfl hl.1 (Nat.le_of_ble_eq_true rfl) dL_law_42 ⟨by show 13 + 3 * t + 0 ≤ 649267; omega, by show 354 + 14 * t + 0 ≤ 7153381; omega⟩ ?_
      refine lv_istore (lv' := [(6, .int (iI (z))), (0, .ref b), (1, .ref x0), (2, .ref z0), (3, .ref pp), (4, .int (iI (1))), (5, .int (iI ((t : Int))))]) hx hb dL_law_45 hl (by decide) rfl (fun ls hl => ?_)
      refine lv_iload hx hb dL_law_47 (lv_at hl 6 rfl) ?_
      refine pv_iconst hx hb dL_law_49 ?_
      refine pv_irem hx hb dL_law_50 (by omega) (by omega) ?_
      have join : ∀ (H : Heap) (ls : Array Slot), RW D cI s.heap.size x0 x1 x2 x5 x6 x7 z0 z1 z2 z5 z6 z7 pp ((t : Int)) (3 * (t : Int) + 2) H → va_S (fun q : Nat => s.heap.size ≤ q) s.heap H [] → lv_has ls 7 [(6, .int (iI (z))), (0, .ref b), (1, .ref x0), (2, .ref z0), (3, .ref pp), (4, .int (iI (1))), (5, .int (iI ((t : Int))))] → W p l e room_1 s m #[Value.ref b] below meth c H [] (13 + 3 * t + 1) (354 + 14 * t + 2) (lw_Z below #[Value.ref b] s) (F0 m 66 ls []) := by
        intro H ls hW hS hl
        have hSW := hSW0.keep (fun q h => hS.2.1 q h (Nat.not_le.mpr h))
        refine lv_aload_n hx hb dL_law_66 rfl (lv_at hl 2 rfl) ?_
        refine lv_aload_n hx hb dL_law_67 rfl (lv_at hl 3 rfl) ?_
        refine lv_aload_n hx hb dL_law_68 rfl (lv_at hl 4 rfl) ?_
        refine lv_iload hx hb dL_law_69 (lv_at hl 0 rfl) ?_
        refine nw_callS (As := [.ref x0, .ref z0, .ref pp, .int (iI (z))]) (rest := []) LPW_mv ⟨hx, hb, hml, hown, hts⟩ (s_tep l hfl D cI s.heap.size st Z x0 x1 x2 x5 x6 x7 z0 z1 z2 z5 z6 z7 pp (t : Int) (3 * (t : Int) + 2) (by omega) (by omega) z hz) (va_cwS 4 hts gL_law_L_step rfl rfl rfl (by decide +kernel) ⟨(Nat.le_of_ble_eq_true rfl), (Nat.le_of_ble_eq_true rfl)⟩) ⟨hSW, hW, hDJ, hnc1, hnc2⟩ rfl rfl hl.1 (Nat.le_of_ble_eq_true rfl) dL_law_71 ⟨by show 13 + 3 * t + 1 + 2 ≤ 649267; omega, by show 354 + 14 * t + 2 + 12 ≤ 7153381; omega⟩ hS (fun q h => by rcases h with h | h | h; exact hxb q h; exact hzb q h; exact h ▸ hDJ.2.2.2) (fun H locs hP2 hz hk hS => ?_)
        have hW : RW D cI s.heap.size x0 x1 x2 x5 x6 x7 z0 z1 z2 z5 z6 z7 pp ((t : Int) + 1) (3 * ((t : Int) + 1)) H := RW_mono (show RW D cI s.heap.size x0 x1 x2 x5 x6 x7 z0 z1 z2 z5 z6 z7 pp ((t : Int) + 1) (3 * (t : Int) + 2 + 1) H from hP2) (by omega) (by omega)
        refine va_forget (fun q hq => hS.2.2 q hq) ?_
        have hS := va_S_nil hS
        have hSW := hSW0.keep (fun q h => hS.2.1 q h (Nat.not_le.mpr h))
        refine pv_if_eq (tgt := 90) hx hb dL_law_74 (by decide) (by omega) (fun c9 => False.elim (by omega)) (fun _ => ?_)
        refine lv_aload_n hx hb dL_law_77 rfl (lv_at hl 2 rfl) ?_
        refine lv_aload_n hx hb dL_law_78 rfl (lv_at hl 3 rfl) ?_
        refine lv_aload_n hx hb dL_law_79 rfl (lv_at hl 4 rfl) ?_
        refine pu_callS (v := 1) (As := [.ref x0, .ref z0, .ref pp]) (rest := []) LPW_mv ⟨hx, hb, hml, hown, hts⟩ (a_like l D cI s.heap.size st Z x0 x1 x2 x5 x6 x7 z0 z1 z2 z5 z6 z7 pp ((t : Int) + 1) (3 * ((t : Int) + 1)) (by omega)) (va_cwS 3 hts gL_law_L_areAlike rfl rfl rfl (by decide +kernel) ⟨(Nat.le_of_ble_eq_true rfl), (Nat.le_of_ble_eq_true rfl)⟩) ⟨hSW, hW, hDJ, hnc1, hnc2⟩ rfl rfl hl.1 (Nat.le_of_ble_eq_true rfl) dL_law_80 ⟨by show 13 + 3 * t + 1 + 2 + 0 ≤ 649267; omega, by show 354 + 14 * t + 2 + 12 + 0 ≤ 7153381; omega⟩ ?_
        refine pv_if_eq (tgt := 90) hx hb dL_law_83 (by decide) (by omega) (fun c9 => False.elim (by omega)) (fun _ => ?_)
        refine pv_iconst hx hb dL_law_86 ?_
        refine lv_goto (tgt := 91) hx hb dL_law_87 (by decide) ?_
        refine lv_istore (lv' := [(4, .int (iI (1))), (6, .int (iI (z))), (0, .ref b), (1, .ref x0), (2, .ref z0), (3, .ref pp), (5, .int (iI ((t : Int))))]) hx hb dL_law_91 hl (by decide) rfl (fun ls hl => ?_)
        refine pv_iinc (lv' := [(5, .int (iI (((t : Int)) + 1))), (4, .int (iI (1))), (6, .int (iI (z))), (0, .ref b), (1, .ref x0), (2, .ref z0), (3, .ref pp)]) hx hb dL_law_93 hl (k := 6) rfl (by decide) rfl (fun ls hl => ?_)
        refine lv_goto (tgt := 27) hx hb dL_law_96 (by decide) ?_
        refine W.widen (k := 13 + 3 * (t + 1)) (n := 354 + 14 * (t + 1)) (by omega) (by omega) ?_
        have hl : lv_has ls 7 [(0, .ref b), (1, .ref x0), (2, .ref z0), (3, .ref pp), (4, .int (iI (1))), (5, .int (iI ((t : Int) + 1)))] := lv_sub hl [3, 4, 5, 6, 1, 0] rfl
        have ih9 := ih (t + 1) H ls (by omega) (by omega)
        rw [show ((t + 1 : Nat) : Int) = (t : Int) + 1 by omega] at ih9
        exact ih9 hW hS hl
      by_cases h3 : (t : Int) % 3 > 0
      · skip
        refine pv_if_gt (tgt := 66) hx hb dL_law_51 (by decide) (by omega) (fun _ => ?_) (fun c9 => False.elim (by omega))
        refine W.widen (k := 13 + 3 * t + 1) (n := 354 + 14 * t + 2) (by omega) (by omega) ?_
        exact join H ls (RW_mono hW (by omega) (by omega)) hS (lv_sub hl [0, 1, 2, 3, 4, 5, 6] rfl)
      · skip
        refine pv_if_gt (tgt := 66) hx hb dL_law_51 (by decide) (by omega) (fun c9 => False.elim (by omega)) (fun _ => ?_)
        refine lv_aload_n hx hb dL_law_54 rfl (lv_at hl 3 rfl) ?_
        refine lv_iload hx hb dL_law_55 (lv_at hl 0 rfl) ?_
        refine pv_bipush hx hb dL_law_57 (by decide +kernel) ?_
        refine pv_idiv hx hb dL_law_59 (by omega) (by omega) ?_
        refine nw_callS (As := [.ref z0, .int (iI (z / 8))]) (rest := []) LPS_mv ⟨hx, hb, hml, hown, hts⟩ (p_assing l D cI s.heap.size st Z x0 x1 x2 x5 x6 x7 z0 z1 z2 z5 z6 z7 pp (t : Int) (3 * (t : Int)) H.size (by omega) (z / 8) (by omega)) (va_cwS 2 hts gL_law_L_passing rfl rfl rfl (by decide +kernel) ⟨(Nat.le_of_ble_eq_true rfl), (Nat.le_of_ble_eq_true rfl)⟩) ⟨⟨hSW, hW, hDJ, hnc1, hnc2⟩, rfl⟩ rfl rfl hl.1 (Nat.le_of_ble_eq_true rfl) dL_law_60 ⟨by show 13 + 3 * t + 1 ≤ 649267; omega, by show 354 + 14 * t + 2 ≤ 7153381; omega⟩ hS (fun q h => by rcases h with h | h; exact hzb q h; exact Nat.le_trans hS.1 h) (fun H locs hP2 hz hk hS => ?_)
        have hW : RW D cI s.heap.size x0 x1 x2 x5 x6 x7 z0 z1 z2 z5 z6 z7 pp ((t : Int)) (3 * (t : Int) + 2) H := hP2
        refine va_forget (fun q hq => hS.2.2 q hq) ?_
        have hS := va_S_nil hS
        refine pv_if_eq (tgt := 90) hx hb dL_law_63 (by decide) (by omega) (fun c9 => False.elim (by omega)) (fun _ => ?_)
        exact join H ls hW hS (lv_sub hl [0, 1, 2, 3, 4, 5, 6] rfl)
set_option maxHeartbeats 4000000 in
set_option maxRecDepth 100000 in
theorem start_SW {p : Program} {s : State} {m : MethodId} {meth : Method} {c : Code} {b L : Nat} {xs : Nat → Int32} (C0 : lw_At p s m meth c b L xs) : ∃ (D : va_G) (cI : ClassId) (st : Nat) (Z : Nat → Nat), SW D cI s.heap.size st Z s s.heap ∧ va_Nc "java/lang/IllegalArgumentException" "java/lang/IllegalStateException" s ∧ va_Nc "java/lang/IllegalArgumentException" "java/lang/IndexOutOfBoundsException" s := by
  obtain ⟨hx, hb, hr, hml, hown, hts, hX, hbl, hlocks, hgv⟩ := id C0
  have hs := flat_of_before _ hgv
  obtain ⟨c0, iS0, hKn0⟩ := u_known (C := RX0) (T := TX0) (N := 8) (n := 8) hts inX0 (hts (.instantiable RX0 8) (by decide +kernel))
  have hKc : ∀ (k : Nat) (q : vw_C), vwCl[k]? = some q → u_Kn s q.1 q.2.1 q.2.2 ((fun _ : Nat => c0) k) ((fun _ : Nat => iS0) k) := by
    intro k q hq
    match k, hq with
    | 0, hq => cases hq; exact hKn0
    | k + 1, hq => simp [vwCl] at hq
  obtain ⟨cI, hAI⟩ := arr_of (ty := .int) (fun _ h => by cases h) (hts (.arrayClass .int) (by decide +kernel))
  have hA : ∀ a : Nat, a < s.heap.size → ¬ (fun q : Nat => s.heap.size ≤ q) a := fun a h => Nat.not_le.mpr h
  have hini : (Cond.initialized "ShelfMarks").before #[Value.ref b] s = true := hts _ (by decide +kernel)
  have hiniT : (Cond.initialized Bundle.tN).before #[Value.ref b] s = true := hts _ (by decide +kernel)
  obtain ⟨st, hst, hT⟩ := va_Tof (tm := (.static "ShelfMarks" "LOADED_FROM" "[I")) (ty := .int) (N := 9) (f := fun j => .int (iI (LM (j : Int)))) (A := fun q : Nat => s.heap.size ≤ q) (by decide) (hs (.arrayOf (.static "ShelfMarks" "LOADED_FROM" "[I") .int) (by decide +kernel)) (va_eqt (z := Int32.ofNat 9) (hs _ (by decide +kernel))) (fun j hj => by
    rcases (show j = 0 ∨ j = 1 ∨ j = 2 ∨ j = 3 ∨ j = 4 ∨ j = 5 ∨ j = 6 ∨ j = 7 ∨ j = 8 by omega) with rfl | rfl | rfl | rfl | rfl | rfl | rfl | rfl | rfl
    · exact va_eqt (z := iI (LM ((0 : Nat) : Int))) (hs _ (by decide +kernel))
    · exact va_eqt (z := iI (LM ((1 : Nat) : Int))) (hs _ (by decide +kernel))
    · exact va_eqt (z := iI (LM ((2 : Nat) : Int))) (hs _ (by decide +kernel))
    · exact va_eqt (z := iI (LM ((3 : Nat) : Int))) (hs _ (by decide +kernel))
    · exact va_eqt (z := iI (LM ((4 : Nat) : Int))) (hs _ (by decide +kernel))
    · exact va_eqt (z := iI (LM ((5 : Nat) : Int))) (hs _ (by decide +kernel))
    · exact va_eqt (z := iI (LM ((6 : Nat) : Int))) (hs _ (by decide +kernel))
    · exact va_eqt (z := iI (LM ((7 : Nat) : Int))) (hs _ (by decide +kernel))
    · exact va_eqt (z := iI (LM ((8 : Nat) : Int))) (hs _ (by decide +kernel))) hA
  have hstb : st < s.heap.size := by obtain ⟨cell, h1, -⟩ := hT; exact (Array.getElem?_eq_some_iff.mp h1).1
  have hAR : AR (fun j => iI (LM (j : Int))) 9 LM := fun k h0 h1 => by show iI (LM (k.toNat : Int)) = _; rw [show (k.toNat : Int) = k by omega]
  obtain ⟨z0, -, -, -, hz0, -⟩ := Cond.exactly_spec (hs (.exactly (.string RX0 59) "java/lang/String") (by decide +kernel))
  have hR0 : vk_R RX0 59 "a folder can't come behind itself" z0 s := vk_R.of (hts (.stringRef RX0 59 "a folder can't come behind itself") (by decide +kernel)) hz0
  obtain ⟨z1, -, -, -, hz1, -⟩ := Cond.exactly_spec (hs (.exactly (.string RX0 104) "java/lang/String") (by decide +kernel))
  have hR1 : vk_R RX0 104 "the folder is not in the archive" z1 s := vk_R.of (hts (.stringRef RX0 104 "the folder is not in the archive") (by decide +kernel)) hz1
  obtain ⟨z2, -, -, -, hz2, -⟩ := Cond.exactly_spec (hs (.exactly (.string RX0 111) "java/lang/String") (by decide +kernel))
  have hR2 : vk_R RX0 111 "no more folders can come" z2 s := vk_R.of (hts (.stringRef RX0 111 "no more folders can come") (by decide +kernel)) hz2
  obtain ⟨z3, -, -, -, hz3, -⟩ := Cond.exactly_spec (hs (.exactly (.string RX0 116) "java/lang/String") (by decide +kernel))
  have hR3 : vk_R RX0 116 "no such reader" z3 s := vk_R.of (hts (.stringRef RX0 116 "no such reader") (by decide +kernel)) hz3
  refine ⟨(fun _ : Nat => c0, fun _ : Nat => iS0), cI, st, fun k => if k = 0 then z0 else if k = 1 then z1 else if k = 2 then z2 else z3, ⟨⟨hKc, fun k q hq => ?_⟩, va_Zref (hts (.laysStatic "ShelfMarks" "LOADED_FROM" "[I") (by decide +kernel)) hini hst hA, ⟨hstb, _, hT, hAR⟩, hR0, hR1, hR2, hR3, ?_, ?_, ?_, ?_, ?_, ?_, ?_, ?_⟩, ?_, ?_⟩
  · match k, hq with
    | 0, hq => cases hq; exact hAI
    | k + 1, hq => simp at hq
  · exact va_Nw.of rfl (hts (.castable "java/lang/IndexOutOfBoundsException" "java/lang/IndexOutOfBoundsException") (by decide +kernel))
  · exact va_Nw.of rfl (hts (.castable "java/lang/IllegalStateException" "java/lang/IllegalStateException") (by decide +kernel))
  · exact va_Nw.of rfl (hts (.castable "java/lang/IllegalArgumentException" "java/lang/IllegalArgumentException") (by decide +kernel))
  · exact va_Nw.of rfl (hts (.declares (Bundle.initS "java/lang/RuntimeException")) (by decide +kernel))
  · exact va_Nw.of rfl (hts (.declares (Bundle.initS "java/lang/Exception")) (by decide +kernel))
  · exact va_Nw.of rfl (hts (.declares (Bundle.initS "java/lang/Throwable")) (by decide +kernel))
  · exact vx_Zqof (hts (.laysStatic Bundle.tN "UNASSIGNED_STACK" Bundle.steD) (by decide +kernel)) hiniT (hs (.isRef (.static Bundle.tN "UNASSIGNED_STACK" Bundle.steD)) (by decide +kernel)) hA
  · exact vx_Zqof (hts (.laysStatic Bundle.tN "SUPPRESSED_SENTINEL" Bundle.listD) (by decide +kernel)) hiniT (hs (.isRef (.static Bundle.tN "SUPPRESSED_SENTINEL" Bundle.listD)) (by decide +kernel)) hA
  · exact va_Nc.of (hs (.not (.castable "java/lang/IllegalArgumentException" "java/lang/IllegalStateException")) (by decide +kernel))
  · exact va_Nc.of (hs (.not (.castable "java/lang/IllegalArgumentException" "java/lang/IndexOutOfBoundsException")) (by decide +kernel))
end
section
set_option maxHeartbeats 4000000 in
set_option maxRecDepth 100000 in
theorem whole_start {p : Program} {e : Env} {s : State} {m : MethodId} {below : List Frame} {meth : Method} {c : Code} (l : Launch) (hflags : l.flags = flags0) {b L : Nat} {xs : Nat → Int32} (hL : L ≤ 260) (C0 : lw_At p s m meth c b L xs) : W p l e room_1 s m #[Value.ref b] below meth c s.heap [] 0 0 (lw_Z below #[Value.ref b] s) (entryFrame m ([Value.ref b] : List Value).toArray 7) := by
  obtain ⟨D, cI, st, Z, hSW0, hnc1, hnc2⟩ := start_SW C0
  have hfl : l.stackTraces = false := by unfold Launch.stackTraces; rw [hflags]; decide +kernel
  obtain ⟨hx, hb, hr, hml, hown, hts0, hX, hbl, hlocks, hgv⟩ := id C0
  have hts : ∀ w ∈ wsL_law, w.before #[Value.ref b] s = true := fun w h => hts0 w (wsL_law_in w h)
  have hS : va_S (fun q : Nat => s.heap.size ≤ q) s.heap s.heap [] := va_S.rf
  have hl := lv_entry ([.ref b]) (n := 7) (Nat.le_of_ble_eq_true rfl)
  rw [lg_entry_eq]
  generalize (lg_sl ([.ref b]) ++ List.replicate (7 - (lg_sl ([.ref b])).length) Slot.unset).toArray = ls at hl ⊢
  have hl : lv_has ls 7 [(0, .ref b)] := hl
  have hP0 : ∀ H : Heap, va_P D vwCl [] H := fun H k q h => by simp at h
  have hD0 : ∀ A : Nat → Prop, va_D A [] := fun A => ⟨fun i j p q h => by simp at h, fun k q h => by simp at h⟩
  refine va_new (ci := 0) (fs := [.null, .null, .int (iI 0), .int (iI 0), .int (iI 0), .null, .null, .null]) (C := RX0) (T := TX0) (N := 8) (A := fun q : Nat => (s.heap : Heap).size ≤ q) hx hb hts0 inX0 tyX0 tyX0_ok hown (hts0 (.classLink RL 10 RX0) (by decide +kernel)) (hts0 (.instantiable RX0 8) (by decide +kernel)) (hts0 (.initialized RX0) (by decide +kernel)) hSW0.1 (hP0 _) (hD0 _) (va_S.rf (H0 := s.heap)) (fun q h => h) rfl (fun j hj => by rcases (show j = 0 ∨ j = 1 ∨ j = 2 ∨ j = 3 ∨ j = 4 ∨ j = 5 ∨ j = 6 ∨ j = 7 by omega) with rfl | rfl | rfl | rfl | rfl | rfl | rfl | rfl <;> first | rfl | (show Value.int 0 = Value.int (iI 0); rw [iI_0])) (Nat.le_of_ble_eq_true rfl) (Nat.le_of_ble_eq_true rfl) dL_law_0 (fun x0 H1 hPx0 hDx0 hSx0 => ?_)
  have hPx0 : va_P D vwCl [(x0, .inr (0, [.null, .null, .int (iI 0), .int (iI 0), .int (iI 0), .null, .null, .null]))] H1 := hPx0
  have hbx : s.heap.size ≤ x0 := hDx0.2 0 _ rfl
  have hS1 : va_S (fun q : Nat => s.heap.size ≤ q) s.heap H1 [] := va_S_step hS hSx0
  refine W.widen (k := 1) (n := 8) (by omega) (by omega) ?_
  refine lv_dup hx hb dL_law_3 rfl ?_
  have hSW1 := hSW0.keep (fun q h => hS1.2.1 q h (Nat.not_le.mpr h))
  refine in_callI (b := x0) (As := []) (rest := [.ref x0]) IP0_mv ⟨hx, hb, hml, hown, hts⟩ (c_init l D cI s.heap.size st Z x0 H1.size) (cwI 0 hts gL_law_X0_init rfl rfl rfl (hts (.initialized RX0) (by decide +kernel)) (hts (.methodLink RL 73 yX0_init) (by decide +kernel)) (hts (.instanceMethod yX0_init) (by decide +kernel)) rfl (by decide +kernel) ⟨Nat.le_of_ble_eq_true rfl, Nat.le_of_ble_eq_true rfl⟩) ⟨hSW1, hPx0, rfl, hbx⟩ rfl rfl hl.1 (Nat.le_of_ble_eq_true rfl) dL_law_4 ⟨Nat.le_of_ble_eq_true rfl, Nat.le_of_ble_eq_true rfl⟩ hS1 (fun q h => by rcases h with h | h; exact h ▸ hbx; exact Nat.le_trans hS1.1 h) (fun H2 locs hP2 hz2 hk2 hS2 => ?_)
  obtain ⟨x1, x2, x5, x6, x7, hC2, hm2⟩ := hP2
  refine va_forget (fun q hq => hS2.2.2 q hq) ?_
  have hS2 := va_S_nil hS2
  refine W.widen (k := 6) (n := 145) (by omega) (by omega) ?_
  refine lv_astore_n (lv' := [(1, .ref x0), (0, .ref b)]) hx hb dL_law_7 rfl hl (by decide) rfl (fun ls hl => ?_)
  refine va_new (ci := 0) (fs := [.null, .null, .int (iI 0), .int (iI 0), .int (iI 0), .null, .null, .null]) (C := RX0) (T := TX0) (N := 8) (A := fun q : Nat => (H2 : Heap).size ≤ q) hx hb hts0 inX0 tyX0 tyX0_ok hown (hts0 (.classLink RL 10 RX0) (by decide +kernel)) (hts0 (.instantiable RX0 8) (by decide +kernel)) (hts0 (.initialized RX0) (by decide +kernel)) hSW0.1 (hP0 _) (hD0 _) (va_S.rf (H0 := H2)) (fun q h => h) rfl (fun j hj => by rcases (show j = 0 ∨ j = 1 ∨ j = 2 ∨ j = 3 ∨ j = 4 ∨ j = 5 ∨ j = 6 ∨ j = 7 by omega) with rfl | rfl | rfl | rfl | rfl | rfl | rfl | rfl <;> first | rfl | (show Value.int 0 = Value.int (iI 0); rw [iI_0])) (Nat.le_of_ble_eq_true rfl) (Nat.le_of_ble_eq_true rfl) dL_law_8 (fun z0 H3 hPz0 hDz0 hSz0 => ?_)
  have hPz0 : va_P D vwCl [(z0, .inr (0, [.null, .null, .int (iI 0), .int (iI 0), .int (iI 0), .null, .null, .null]))] H3 := hPz0
  have hby2 : H2.size ≤ z0 := hDz0.2 0 _ rfl
  have hby : s.heap.size ≤ z0 := Nat.le_trans hS2.1 hby2
  have hS3 : va_S (fun q : Nat => s.heap.size ≤ q) s.heap H3 [] := va_S_step hS2 hSz0
  have hC3 := CW_fr hC2 (fun q h1 h2 => hSz0.2.1 q h1 h2) (fun q h => Nat.not_le.mpr (CW_mlt hC2 q h))
  refine W.widen (k := 7) (n := 153) (by omega) (by omega) ?_
  refine lv_dup hx hb dL_law_11 rfl ?_
  have hSW3 := hSW0.keep (fun q h => hS3.2.1 q h (Nat.not_le.mpr h))
  refine in_callI (b := z0) (As := []) (rest := [.ref z0]) IP0_mv ⟨hx, hb, hml, hown, hts⟩ (c_init l D cI s.heap.size st Z z0 H3.size) (cwI 0 hts gL_law_X0_init rfl rfl rfl (hts (.initialized RX0) (by decide +kernel)) (hts (.methodLink RL 73 yX0_init) (by decide +kernel)) (hts (.instanceMethod yX0_init) (by decide +kernel)) rfl (by decide +kernel) ⟨Nat.le_of_ble_eq_true rfl, Nat.le_of_ble_eq_true rfl⟩) ⟨hSW3, hPz0, rfl, hby⟩ rfl rfl hl.1 (Nat.le_of_ble_eq_true rfl) dL_law_12 ⟨Nat.le_of_ble_eq_true rfl, Nat.le_of_ble_eq_true rfl⟩ hS3 (fun q h => by rcases h with h | h; exact h ▸ hby; exact Nat.le_trans hS3.1 h) (fun H4 locs hP2 hz2 hk2 hS4 => ?_)
  obtain ⟨z1, z2, z5, z6, z7, hD4, hm4⟩ := hP2
  refine va_forget (fun q hq => hS4.2.2 q hq) ?_
  have hS4 := va_S_nil hS4
  have hxl : ∀ q, mC x0 x1 x2 x5 x6 x7 q → ¬ (q = z0 ∨ H3.size ≤ q) := fun q h y => by
    have h1 := CW_mlt hC2 q h
    have h2 := hSz0.1
    rcases y with y | y <;> omega
  have hC4 := CW_fr hC3 hk2 hxl
  refine W.widen (k := 12) (n := 290) (by omega) (by omega) ?_
  refine lv_astore_n (lv' := [(2, .ref z0), (1, .ref x0), (0, .ref b)]) hx hb dL_law_15 rfl hl (by decide) rfl (fun ls hl => ?_)
  refine pv_bipush hx hb dL_law_16 (by decide +kernel) ?_
  refine pv_newa (A := fun q : Nat => H4.size ≤ q) (k9 := 64) (N2 := 64) (atype := .int) (ty := .int) (a0 := (64, .inl (fun _ => iI 0))) hx hb (hts (.arrayClass .int) (by decide +kernel)) rfl hSW0.1 0 rfl (fun U k h => h) (hP0 _) (hD0 _) (va_S.rf (H0 := H4)) (fun q h => h) (fun cA => by rw [iI_0]; rfl) (by omega) rfl (Nat.le_of_ble_eq_true rfl) (Nat.le_of_ble_eq_true rfl) (Nat.le_of_ble_eq_true rfl) dL_law_18 (fun pp H5 hPp hDp hSp => ?_)
  have hob4 : H4.size ≤ pp := hDp.2 0 _ rfl
  have hO : OP D cI pp (fun _ => 0) H5 := ⟨_, fun k _ _ => rfl, hPp⟩
  have hS5 : va_S (fun q : Nat => s.heap.size ≤ q) s.heap H5 [] := va_S_step hS4 hSp
  have hC5 := CW_fr hC4 (fun q h1 h2 => hSp.2.1 q h1 h2) (fun q h => Nat.not_le.mpr (CW_mlt hC4 q h))
  have hD5 := CW_fr hD4 (fun q h1 h2 => hSp.2.1 q h1 h2) (fun q h => Nat.not_le.mpr (CW_mlt hD4 q h))
  have hDJ : DJ s.heap.size x0 x1 x2 x5 x6 x7 z0 z1 z2 z5 z6 z7 pp := ⟨fun q h y => hxl q h (hm4 q y), fun h => absurd (CW_mlt hC4 pp h) (Nat.not_lt.mpr hob4), fun h => absurd (CW_mlt hD4 pp h) (Nat.not_lt.mpr hob4), Nat.le_trans hS4.1 hob4⟩
  refine W.widen (k := 13 + 3 * 0) (n := 354 + 14 * 0) (by omega) (by omega) ?_
  refine lv_astore_n (lv' := [(3, .ref pp), (2, .ref z0), (1, .ref x0), (0, .ref b)]) hx hb dL_law_20 rfl hl (by decide) rfl (fun ls hl => ?_)
  refine pv_iconst hx hb dL_law_21 ?_
  refine lv_istore (lv' := [(4, .int (iI 1)), (3, .ref pp), (2, .ref z0), (1, .ref x0), (0, .ref b)]) hx hb dL_law_22 hl (by decide) rfl (fun ls hl => ?_)
  refine pv_iconst hx hb dL_law_24 ?_
  refine lv_istore (lv' := [(5, .int (iI 0)), (4, .int (iI 1)), (3, .ref pp), (2, .ref z0), (1, .ref x0), (0, .ref b)]) hx hb dL_law_25 hl (by decide) rfl (fun ls hl => ?_)
  exact law_loop l hfl hL C0 hSW0 hnc1 hnc2 hDJ (CW_b hD5) (CW_b hC5) 61 0 H5 ls (by omega) (by omega) ⟨0, 0, 0, _, _, _, _, _, 0, 0, _, _, _, _, _, _, hC5, hD5, hO, INV_0, INV_0, ⟨fun j h0 h1 => by omega, fun r _ _ => rfl, fun r _ _ => rfl⟩, by omega, by omega, by omega⟩ hS5 (lv_sub hl [5, 4, 3, 2, 1, 0] rfl)
end
section

set_option maxHeartbeats 4000000 in
theorem lw_walk (l : Launch) (hflags : l.flags = flags0) (b : Addr) (xs : List Int32) : MetFree l x (headSpec (Jvm.Cond.code x code maxLocals ret :: tables_1) room_1) (lw_P b xs) (fun _ _ _ _ _ => True) lw_Q := by
  refine MetFree.of_bodyS (code := code) (maxLocals := maxLocals) (ret := ret) (by decide) ?_ ?_
  · intro args s m h hn
    obtain ⟨meth, c, h1, h2, h3, h4, h5, h6, -, -⟩ := Cond.code_spec hn (atoms_spec (ws := Jvm.Cond.code x code maxLocals ret :: tables_1) h _ List.mem_cons_self)
    exact ⟨meth, c, h1, h2, h3, h4, h5, h6⟩
  · intro p e s m args below meth c s₁ B hml0 hP _
    obtain ⟨rfl, hx, hbd, hgv⟩ := hP
    obtain ⟨scr, harrAt, hlist, hof, hsmall⟩ := hx
    obtain ⟨hcb, hkn, -, -⟩ := State.arrayAt?_spec harrAt
    have hown : s.vm.findClass R_law = some m.cls := findClass_of_methodNamed B.named
    have hts0 : ∀ c ∈ (Jvm.Cond.code x code maxLocals ret :: tables_1), c.before #[Value.ref b] s = true := atoms_spec (ws := Jvm.Cond.code x code maxLocals ret :: tables_1) B.pre
    have hts : ∀ w ∈ lw_tbl, w.before #[Value.ref b] s = true := k2_hts_sels lw_privs (fun w hw => hts0 w (List.mem_cons_of_mem _ hw)) lw_privs_ok
    have hml : c.maxLocals = 7 := B.maxLocals_eq (hts0 _ List.mem_cons_self)
    have X₀ : Stand p l e room_1 s m #[Value.ref b] below meth c s₁ [] 0 0 := Stand.of_body B
    have hh0 : s₁.heap = s.heap := by rw [B.state]; rfl
    have hsz : scr.slots.size = xs.length := by rw [← Array.length_toList, hlist, List.length_map]
    have hval : ∀ j : Nat, j < xs.length → scr.slots[j]? = some (.int (xs.getD j 0)) := fun j hj => by
      rw [← Array.getElem?_toList, hlist]
      simp [hj]
    have hbl : b < s.heap.size := (Array.getElem?_eq_some_iff.mp hcb).1
    have hX : va_X b xs.length (fun j => xs.getD j 0) s s.heap := ⟨scr, hcb, hof, hkn, hsz, hval⟩
    have K : W p l e room_1 s m #[Value.ref b] below meth c s₁.heap [] 0 0 (lw_Z below #[Value.ref b] s) (entryFrame m ([Value.ref b] : List Value).toArray 7) := by
      rw [hh0]
      exact whole_start l hflags hbd ⟨B.exec, B.bytes, B.returns, hml, hown, hts, hX, hbl, B.notSynchronized, hgv⟩
    obtain ⟨t, a1, o, b1, b2, b3⟩ := K s₁ rfl X₀
    exact ⟨t, o, a1, b1, b2, b3⟩
theorem lw_pre_spec {args : Array Value} {s : State} (h : (Jvm.Cond.and given_1 narrow_1).before args s = true) (hr : rest_1_c.before args s = true) : ∃ (b : Addr) (xs : List Int32), lw_P b xs args s := by
  have hs := flat_of_before _ h
  have hq := flat_of_before _ hr
  have hc : (Cond.count 1).before args s = true := hs _ (by decide +kernel)
  have harr : (Cond.arrayOf (.arg 0) .int).before args s = true := hs _ (by decide +kernel)
  have hle : (Cond.le (.length (.arg 0)) (.int 260)).before args s = true := hs _ (by decide +kernel)
  have hlen : (Cond.isInt (.length (.arg 0))).before args s = true := hq _ (by decide +kernel)
  have hall : (Cond.all (.arg 0) (.isInt (.elem (.arg 0) (.index 0)))).before args s = true := hq _ (by decide +kernel)
  obtain ⟨b, xs, hb, hx⟩ := State.ints_of_pre rfl harr hlen hall
  have hsm : xs.length < 2 ^ 31 := hx.choose_spec.2.2.2
  have hev : (Term.length (.arg 0)).eval args s none [] s = some (.int xs.length.toInt32) := hx.length_eval hb
  have hv := Cond.le_ints hev (show (Term.int 260).eval args s none [] s = some (.int 260) from rfl)
  have hd : xs.length.toInt32 ≤ 260 := by
    simpa [Cond.before, Cond.holds, hv] using hle
  have hN : xs.length ≤ 260 := (Int32.ofNat_le_ofNat hsm (by decide)).mp (show Int32.ofNat xs.length ≤ Int32.ofNat 260 from hd)
  exact ⟨b, xs, Cond.one_arg hc (show args[0]? = some (.ref b) from hb), hx, hN, h⟩
theorem lw_comes (l : Launch) (hflags : l.flags = flags0) : Comes l x (Jvm.Cond.code x code maxLocals ret :: tables_1) room_1 (fun tb e args s => Calls_1 tb e args s ∧ rest_1 tb e args s ∧ Pre_1 tb e args s)
    (fun _ _ args s o t => lw_Q args s o t) := by
  intro p e ha hc hk s m args below hf hfit hheap happ hpre
  obtain ⟨b, xs, hP⟩ := lw_pre_spec hpre.2.2 hpre.2.1
  obtain ⟨k, o, h1, h2, h3, hQ⟩ := lw_walk l hflags b xs p e ha hc hk s m args below hf ((Spec.applies_iff_loose hf).mp happ).1 hP trivial
  exact ⟨k, o, h1, h2, h3, hQ⟩
theorem lw_frame {s t : State} {o : Outcome} {args : Array Value} (h : Framed s o t [] 649267 7153381) :
    Framed s o t (fieldLocs frame_1_writes args s ++ arrayLocs frame_1_arrays args s ++ staticLocs frame_1_statics s) 649267 7153381 := h
theorem lw_limb (L : Cond) (hL : ∀ (args : Array Value) (s t : State), L.after args s (.returned (some (.int 1))) t = true) :
    ArmFor flags0 classFile x code maxLocals ret World_1 tables_1 room_1 Calls_1 rest_1 Pre_1
      (fun tb e a s o t => postC L tb e a s o t ∧ Framed s o t (fieldLocs frame_1_writes a s ++ arrayLocs frame_1_arrays a s ++ staticLocs frame_1_statics s) 649267 7153381) := by
  intro l hflags _ _ p e ha hc hk s m args below hf hfit hheap happ hpre
  obtain ⟨k, o, h1, h2, h3, rfl, hF⟩ := lw_comes l hflags p e ha hc hk s m args below hf hfit hheap happ hpre
  exact ⟨k, _, h1, h2, h3, hL args s _, lw_frame hF⟩
theorem i_vc : Claimed_1_1 ∧ Claimed_1_2 := ⟨lw_limb limb_1_1 (fun args s t => by simp [limb_1_1, Cond.after, Cond.holds, Cond.value]), lw_limb limb_1_2 (fun args s t => Cond.after_iff.mpr (by
  first | (rw [show limb_1_2 = Cond.eq .result (.int 1) from rfl, Cond.eq_ints (x := 1) (y := 1) rfl rfl]; simp; done) | (simp [limb_1_2, Cond.value, Term.eval]; done)))⟩
end
