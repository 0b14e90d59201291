/-! the worlds: the class's object and arrays, the reference's, and what stands still: tables, statics, texts -/
def LM : Int → Int := fun k => if k = 0 then 1 else if k = 1 then 2 else if k = 2 then 3 else if k = 3 then 5 else if k = 4 then 8 else if k = 5 then 14 else if k = 6 then 24 else if k = 7 then 42 else 73
abbrev W0 (cI : ClassId) (x0 x1 x2 x5 x6 x7 : Nat) (n came MV : Int) (f g sp rf rc : Nat → Int32) : va_W := [(x0, .inr (0, [.ref x1, .ref x2, .int (iI n), .int (iI came), .int (iI MV), .ref x5, .ref x6, .ref x7])), (x1, .inl (cI, 60, .inl f)), (x2, .inl (cI, 60, .inl g)), (x5, .inl (cI, 9, .inl sp)), (x6, .inl (cI, 4, .inl rf)), (x7, .inl (cI, 4, .inl rc))]
def mC (x0 x1 x2 x5 x6 x7 : Nat) : Nat → Prop := fun q => q = x0 ∨ q = x1 ∨ q = x2 ∨ q = x5 ∨ q = x6 ∨ q = x7
/-- what the throwing methods need: the texts, the classes, two statics of Throwable -/
def TW (base : Nat) (Z : Nat → Nat) (U : State) (H : Heap) : Prop := vk_R RX0 59 "a folder can't come behind itself" (Z 0) U ∧ vk_R RX0 104 "the folder is not in the archive" (Z 1) U ∧ vk_R RX0 111 "no more folders can come" (Z 2) U ∧ vk_R RX0 116 "no such reader" (Z 3) U ∧ va_Nw (.castable "java/lang/IndexOutOfBoundsException" "java/lang/IndexOutOfBoundsException") U ∧ va_Nw (.castable "java/lang/IllegalStateException" "java/lang/IllegalStateException") U ∧ va_Nw (.castable "java/lang/IllegalArgumentException" "java/lang/IllegalArgumentException") U ∧ va_Nw (.declares (Bundle.initS "java/lang/RuntimeException")) U ∧ va_Nw (.declares (Bundle.initS "java/lang/Exception")) U ∧ va_Nw (.declares (Bundle.initS "java/lang/Throwable")) U ∧ vx_Zq Bundle.tN "UNASSIGNED_STACK" Bundle.steD (fun q => base ≤ q) U H ∧ vx_Zq Bundle.tN "SUPPRESSED_SENTINEL" Bundle.listD (fun q => base ≤ q) U H
def SW (D : va_G) (cI : ClassId) (base st : Nat) (Z : Nat → Nat) (U : State) (H : Heap) : Prop := va_K D vwCl [(cI, .int)] U ∧ va_Z "ShelfMarks" "LOADED_FROM" "[I" (.ref st) (fun q => base ≤ q) U H ∧ (st < base ∧ ∃ xs, va_T .int st 9 (fun j => .int (xs j)) (fun q => base ≤ q) U H ∧ AR xs 9 LM) ∧ TW base Z U H
theorem SW.move {D : va_G} {cI : ClassId} {base st : Nat} {Z : Nat → Nat} {u U : State} {H : Heap} (hW : u.WarmedH U.vm) (h : SW D cI base st Z u H) : SW D cI base st Z U H := by
  obtain ⟨h1, h2, ⟨h3, xs, h4, h5⟩, t0, t1, t2, t3, k0, k1, k2, k3, k4, k5, h6, h7⟩ := h
  exact ⟨va_K.moved hW.alike h1, h2.moved hW.alike, ⟨h3, xs, h4.moved hW.alike, h5⟩, vk_R.warm hW t0, vk_R.warm hW t1, vk_R.warm hW t2, vk_R.warm hW t3, va_Nw.warmC hW k0, va_Nw.warmC hW k1, va_Nw.warmC hW k2, va_Nw.warmD hW k3, va_Nw.warmD hW k4, va_Nw.warmD hW k5, h6.moved hW.alike, h7.moved hW.alike⟩
theorem SW.keep {D : va_G} {cI : ClassId} {base st : Nat} {Z : Nat → Nat} {U : State} {H H1 : Heap} (h : SW D cI base st Z U H) (hk : ∀ q : Nat, q < base → H1[q]? = H[q]?) : SW D cI base st Z U H1 := by
  obtain ⟨h1, h2, ⟨h3, xs, h4, h5⟩, t0, t1, t2, t3, k0, k1, k2, k3, k4, k5, h6, h7⟩ := h
  have hq : ∀ a : Nat, a < H.size → ¬ (fun q => base ≤ q) a → H1[a]? = H[a]? := fun a _ h => hk a (Nat.not_le.mp h)
  exact ⟨h1, h2.kept hq, ⟨h3, xs, h4.kept hq, h5⟩, t0, t1, t2, t3, k0, k1, k2, k3, k4, k5, h6.kept hq, h7.kept hq⟩
def CW (D : va_G) (cI : ClassId) (base x0 x1 x2 x5 x6 x7 : Nat) (n came MV : Int) (F G SP RF RC : Int → Int) (H : Heap) : Prop := ∃ f g sp rf rc : Nat → Int32, AR f n F ∧ AR g n G ∧ AR sp 9 SP ∧ AR rf 4 RF ∧ AR rc 4 RC ∧ va_P D vwCl (W0 cI x0 x1 x2 x5 x6 x7 n came MV f g sp rf rc) H ∧ va_D (fun q => base ≤ q) (W0 cI x0 x1 x2 x5 x6 x7 n came MV f g sp rf rc)
def CP (D : va_G) (cI : ClassId) (base st : Nat) (Z : Nat → Nat) (x0 x1 x2 x5 x6 x7 : Nat) (n came MV : Int) (F G SP RF RC : Int → Int) : State → Heap → Prop := fun U H => SW D cI base st Z U H ∧ CW D cI base x0 x1 x2 x5 x6 x7 n came MV F G SP RF RC H
theorem CP_mv {D : va_G} {cI : ClassId} {base st : Nat} {Z : Nat → Nat} {x0 x1 x2 x5 x6 x7 : Nat} {n came MV : Int} {F G SP RF RC : Int → Int} : mvb (CP D cI base st Z x0 x1 x2 x5 x6 x7 n came MV F G SP RF RC) := fun _ _ _ hW h => ⟨h.1.move hW, h.2⟩
theorem CP_rc {D : va_G} {cI : ClassId} {base st : Nat} {Z : Nat → Nat} {x0 x1 x2 x5 x6 x7 : Nat} {n came MV : Int} {F G SP RF RC : Int → Int} {s : State} {H : Heap} (h : CP D cI base st Z x0 x1 x2 x5 x6 x7 n came MV F G SP RF RC s H) : ∃ cellB : Cell, H[x0]? = some cellB ∧ cellB.vm.isStatics = false ∧ s.vm.findClass RX0 = some cellB.cls := by
  obtain ⟨⟨hK, -⟩, f, g, sp, rf, rc, -, -, -, -, -, hP, -⟩ := h
  exact va_recv hK hP (ci := 0) (q0 := 0) (q := (RX0, TX0, 8)) rfl rfl
/-- the world's cells are of the set, too -/
theorem CW_mD {base x0 x1 x2 x5 x6 x7 : Nat} {cI : ClassId} {n came MV : Int} {f g sp rf rc : Nat → Int32} (h : va_D (fun q => base ≤ q) (W0 cI x0 x1 x2 x5 x6 x7 n came MV f g sp rf rc)) : va_D (mC x0 x1 x2 x5 x6 x7) (W0 cI x0 x1 x2 x5 x6 x7 n came MV f g sp rf rc) := by
  refine ⟨h.1, fun k q hq => ?_⟩
  unfold mC
  match k, hq with
  | 0, hq => cases hq; exact Or.inl rfl
  | 1, hq => cases hq; exact Or.inr (Or.inl rfl)
  | 2, hq => cases hq; exact Or.inr (Or.inr (Or.inl rfl))
  | 3, hq => cases hq; exact Or.inr (Or.inr (Or.inr (Or.inl rfl)))
  | 4, hq => cases hq; exact Or.inr (Or.inr (Or.inr (Or.inr (Or.inl rfl))))
  | 5, hq => cases hq; exact Or.inr (Or.inr (Or.inr (Or.inr (Or.inr rfl))))
  | k + 6, hq => simp [W0] at hq
/-- the set lies behind base, if the world does -/
theorem mC_b {base x0 x1 x2 x5 x6 x7 : Nat} {cI : ClassId} {n came MV : Int} {f g sp rf rc : Nat → Int32} (h : va_D (fun q => base ≤ q) (W0 cI x0 x1 x2 x5 x6 x7 n came MV f g sp rf rc)) : ∀ q, mC x0 x1 x2 x5 x6 x7 q → base ≤ q := by
  intro q hq
  rcases hq with rfl | rfl | rfl | rfl | rfl | rfl
  · exact h.2 0 _ rfl
  · exact h.2 1 _ rfl
  · exact h.2 2 _ rfl
  · exact h.2 3 _ rfl
  · exact h.2 4 _ rfl
  · exact h.2 5 _ rfl
/-- what stands still, behind changes of the set -/
theorem SW.behind {D : va_G} {cI : ClassId} {base st : Nat} {Z : Nat → Nat} {U : State} {H0 H : Heap} {A : Nat → Prop} {locs : List Loc} (h : SW D cI base st Z U H0) (hb : base ≤ H0.size) (hA : ∀ q, A q → base ≤ q) (hS : va_S A H0 H locs) : SW D cI base st Z U H :=
  h.keep (fun q hq => hS.2.1 q (Nat.lt_of_lt_of_le hq hb) (fun z => absurd (hA q z) (Nat.not_le.mpr hq)))
theorem CW_lt {D : va_G} {cI : ClassId} {base x0 x1 x2 x5 x6 x7 : Nat} {n came MV : Int} {F G SP RF RC : Int → Int} {H : Heap} (h : CW D cI base x0 x1 x2 x5 x6 x7 n came MV F G SP RF RC H) : base ≤ H.size := by
  obtain ⟨f, g, sp, rf, rc, -, -, -, -, -, hP, hD⟩ := h
  exact Nat.le_trans (hD.2 0 _ rfl) (Nat.le_of_lt (hP 0 _ rfl).lt)
theorem CW_kept {D : va_G} {cI : ClassId} {base x0 x1 x2 x5 x6 x7 : Nat} {n came MV : Int} {F G SP RF RC : Int → Int} {H H1 : Heap} (h : CW D cI base x0 x1 x2 x5 x6 x7 n came MV F G SP RF RC H) (hk : ∀ q : Nat, mC x0 x1 x2 x5 x6 x7 q → H1[q]? = H[q]?) : CW D cI base x0 x1 x2 x5 x6 x7 n came MV F G SP RF RC H1 := by
  obtain ⟨f, g, sp, rf, rc, a1, a2, a3, a4, a5, hP, hD⟩ := h
  exact ⟨f, g, sp, rf, rc, a1, a2, a3, a4, a5, hP.kept (fun k q hq => hk q.1 ((CW_mD hD).2 k q hq)), hD⟩
