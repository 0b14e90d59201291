/-! the reference's words -/
def kn (came : Int) (ZN : Int → Int) (x : Int) : Int := if 0 ≤ x ∧ x < came ∧ ZN x = 1 then 1 else 0
def MI (n came : Int) (F ZN : Int → Int) : Prop := (0 ≤ came ∧ came ≤ 200) ∧ (∀ x : Int, 0 ≤ x → x < came → 0 ≤ ZN x ∧ ZN x ≤ 1) ∧ (∀ x : Int, 0 ≤ x → x < came → (ZN x = 1 ↔ ∃ k : Int, 0 ≤ k ∧ k < n ∧ F k = x)) ∧ (∀ k : Int, 0 ≤ k → k < n → F k < came)
theorem kn_1 {n came : Int} {F ZN : Int → Int} {x rp : Int} (h : MI n came F ZN) (hF : ∀ k : Int, 0 ≤ k → k < n → 0 ≤ F k ∧ F k < 200) (hrp : PL F n x rp) (h0 : 0 ≤ rp) : kn came ZN x = 1 := by
  rcases hrp with ⟨e, -⟩ | ⟨a1, a2, a3, -⟩
  · omega
  · have b1 := hF rp a1 a2
    have b2 := h.2.2.2 rp a1 a2
    unfold kn
    rw [if_pos ⟨by omega, by omega, (h.2.2.1 x (by omega) (by omega)).mpr ⟨rp, a1, a2, a3⟩⟩]
theorem kn_0 {n came : Int} {F ZN : Int → Int} {x : Int} (h : MI n came F ZN) (hrp : PL F n x (-1)) : kn came ZN x = 0 := by
  rcases hrp with ⟨-, e⟩ | ⟨a1, -⟩
  · unfold kn
    rw [if_neg]
    rintro ⟨b1, b2, b3⟩
    obtain ⟨k, c1, c2, c3⟩ := (h.2.2.1 x b1 b2).mp b3
    exact e k c1 c2 c3
  · omega
theorem bt_mb (G : Int → Int) (n a b : Int) (h : a ≤ b) : cn (fun k => decide (a ≤ G k ∧ G k < b)) n.toNat = mb G n b - mb G n a := by
  unfold mb
  generalize n.toNat = m
  induction m with
  | zero => rfl
  | succ m ih =>
    simp only [cn]
    rw [ih]
    simp only [decide_eq_true_eq]
    split <;> split <;> split <;> omega
theorem cn_skip {P P2 : Int → Bool} {q : Int} (hq : 0 ≤ q) {M : Nat} (h : ∀ k : Int, 0 ≤ k → k < M → P2 k = (if k = q then false else if k < q then P k else P (k - 1))) : ∀ m : Nat, m ≤ M → cn P2 m = if (m : Int) ≤ q then cn P m else cn P (m - 1) := by
  intro m
  induction m with
  | zero => intro _; rw [if_pos (by omega)]; rfl
  | succ m ih =>
    intro hm
    have e1 : cn P2 (m + 1) = cn P2 m + (if P2 m = true then 1 else 0) := rfl
    rw [e1, ih (by omega)]
    rcases (show (m : Int) < q ∨ (m : Int) = q ∨ q < (m : Int) by omega) with z | z | z
    · have e : P2 m = P m := by rw [h m (by omega) (by omega), if_neg (by omega), if_pos z]
      rw [e, if_pos (show (m : Int) ≤ q by omega), if_pos (show ((m + 1 : Nat) : Int) ≤ q by omega)]
      rfl
    · have e : P2 m = false := by rw [h m (by omega) (by omega), if_pos z]
      rw [e, if_pos (show (m : Int) ≤ q by omega), if_neg (show ¬ ((m + 1 : Nat) : Int) ≤ q by omega)]
      simp
    · have e : P2 m = P ((m : Int) - 1) := by rw [h m (by omega) (by omega), if_neg (by omega), if_neg (by omega)]
      rw [e, if_neg (show ¬ (m : Int) ≤ q by omega), if_neg (show ¬ ((m + 1 : Nat) : Int) ≤ q by omega)]
      obtain ⟨j, rfl⟩ : ∃ j, m = j + 1 := ⟨m - 1, by omega⟩
      simp only [Nat.add_sub_cancel, cn]
      rw [show ((j + 1 : Nat) : Int) - 1 = (j : Int) by omega]
/-- a shelf's folders, told of the row behind the coming of a new one -/
theorem lw_ld {G : Int → Int} {n q lo hi d : Int} (hq : 0 ≤ q ∧ q ≤ n) (h : lo ≤ hi) : cn (fun k => decide (k ≠ q ∧ lo ≤ insF G q d k ∧ insF G q d k < hi)) (n + 1).toNat = mb G n hi - mb G n lo := by
  rw [← bt_mb G n lo hi h]
  have e := cn_skip (P := fun k => decide (lo ≤ G k ∧ G k < hi)) (P2 := fun k => decide (k ≠ q ∧ lo ≤ insF G q d k ∧ insF G q d k < hi)) (q := q) hq.1 (M := (n + 1).toNat) (by
    intro k h0 h1
    rcases (show k < q ∨ k = q ∨ q < k by omega) with z | z | z
    · rw [if_neg (by omega), if_pos z]
      simp only [insF, if_pos z]
      simp [show k ≠ q by omega]
    · rw [if_pos z]; simp [z]
    · rw [if_neg (by omega), if_neg (by omega)]
      simp only [insF, if_neg (show ¬ k < q by omega), if_neg (show ¬ k = q by omega)]
      simp [show k ≠ q by omega]) (n + 1).toNat (Nat.le_refl _)
  rw [e, if_neg (by omega), show (n + 1).toNat - 1 = n.toNat by omega]
theorem mv_new {G Q : Int → Int} {q lo w bg t : Int} (hb : 0 ≤ bg ∧ bg ≤ q ∧ q < bg + t) (hQ : ∀ k : Int, bg ≤ k → k < bg + t → k ≠ q → Q k = if k < q then G k else G (k - 1)) : cn (fun i => decide (bg + i ≠ q ∧ Q (bg + i) ≠ nm lo w t i)) t.toNat = mvn G q lo w bg t (t - 1).toNat := by
  unfold mvn
  have e := cn_skip (P := fun i => decide (G (bg + i) ≠ nm lo w t (np q bg i))) (P2 := fun i => decide (bg + i ≠ q ∧ Q (bg + i) ≠ nm lo w t i)) (q := q - bg) (by omega) (M := t.toNat) (by
    intro k h0 h1
    rcases (show k < q - bg ∨ k = q - bg ∨ q - bg < k by omega) with z | z | z
    · rw [if_neg (by omega), if_pos z, hQ (bg + k) (by omega) (by omega) (by omega), if_pos (by omega)]
      unfold np
      rw [if_pos (by omega)]
      simp [show bg + k ≠ q by omega]
    · rw [if_pos z]; simp [show bg + k = q by omega]
    · rw [if_neg (by omega), if_neg (by omega), hQ (bg + k) (by omega) (by omega) (by omega), if_neg (by omega)]
      unfold np
      rw [if_neg (by omega), show bg + (k - 1) = bg + k - 1 by omega, show k - 1 + 1 = k by omega]
      simp [show bg + k ≠ q by omega]) t.toNat (Nat.le_refl _)
  rw [e, if_neg (by omega), show (t - 1).toNat = t.toNat - 1 by omega]
/-- which places a shelf is -/
theorem in_sh {G : Int → Int} {n lo hi k : Int} (hn : 0 ≤ n) (hs : SD G n) (hk : 0 ≤ k ∧ k < n) (h : lo ≤ hi) : (lo ≤ G k ∧ G k < hi) ↔ (mb G n lo ≤ k ∧ k < mb G n hi) := by
  obtain ⟨a1, a2, a3⟩ := mb_FI (G := G) lo hn hs
  obtain ⟨b1, b2, b3⟩ := mb_FI (G := G) hi hn hs
  constructor
  · rintro ⟨h1, h2⟩
    constructor
    · rcases (show mb G n lo ≤ k ∨ k < mb G n lo by omega) with z | z
      · exact z
      · have := a2 k hk.1 z; omega
    · rcases (show k < mb G n hi ∨ mb G n hi = k ∨ mb G n hi < k by omega) with z | z | z
      · exact z
      · have := b3 (by omega); rw [z] at this; omega
      · have := b3 (by omega); have := hs _ k b1.1 z hk.2; omega
  · rintro ⟨h1, h2⟩
    refine ⟨?_, b2 k hk.1 h2⟩
    rcases (show mb G n lo = k ∨ mb G n lo < k by omega) with z | z
    · have := a3 (by omega); rw [z] at this; exact this
    · have := a3 (by omega); have := hs _ k a1.1 z hk.2; omega
theorem PL_un {F : Int → Int} {n x r q : Int} (h : PL F n x r) (h2 : PL F n x q) : r = q := by
  rcases h with ⟨e, a⟩ | ⟨a1, a2, a3, a4⟩ <;> rcases h2 with ⟨e2, b⟩ | ⟨b1, b2, b3, b4⟩
  · omega
  · exact absurd b3 (a q b1 b2)
  · exact absurd a3 (b r a1 a2)
  · rcases (show r < q ∨ q < r ∨ r = q by omega) with z | z | z
    · exact absurd a3 (b4 r a1 z)
    · exact absurd b3 (a4 q b1 z)
    · exact z
theorem LM8 : LM 8 = 73 := by decide
/-- the reference's world, its marks told by place -/
def MA (D : va_G) (cI cZ : ClassId) (base y0 y1 y2 y3 y6 y7 y8 : Nat) (n came MV th : Int) (F Gp SP RF RC : Int → Int) (H : Heap) : Prop := ∃ G ZN : Int → Int, (∀ k : Int, 0 ≤ k → k < n → G (F k) = Gp k) ∧ MI n came F ZN ∧ MW D cI cZ base y0 y1 y2 y3 y6 y7 y8 n came MV th F G ZN SP RF RC H
def AP (D : va_G) (cI cZ : ClassId) (base st : Nat) (Z : Nat → Nat) (y0 y1 y2 y3 y6 y7 y8 : Nat) (n came MV th : Int) (F Gp SP RF RC : Int → Int) : State → Heap → Prop := fun U H => SW D cI cZ base st Z U H ∧ MA D cI cZ base y0 y1 y2 y3 y6 y7 y8 n came MV th F Gp SP RF RC H
theorem AP_mv {D : va_G} {cI cZ : ClassId} {base st : Nat} {Z : Nat → Nat} {y0 y1 y2 y3 y6 y7 y8 : Nat} {n came MV th : Int} {F Gp SP RF RC : Int → Int} : mvb (AP D cI cZ base st Z y0 y1 y2 y3 y6 y7 y8 n came MV th F Gp SP RF RC) := fun _ _ _ hW h => ⟨h.1.move hW, h.2⟩
theorem AP_rc {D : va_G} {cI cZ : ClassId} {base st : Nat} {Z : Nat → Nat} {y0 y1 y2 y3 y6 y7 y8 : Nat} {n came MV th : Int} {F Gp SP RF RC : Int → Int} {s : State} {H : Heap} (h : AP D cI cZ base st Z y0 y1 y2 y3 y6 y7 y8 n came MV th F Gp SP RF RC s H) : ∃ cellB : Cell, H[y0]? = some cellB ∧ cellB.vm.isStatics = false ∧ s.vm.findClass RX1 = some cellB.cls := by
  obtain ⟨h1, G, ZN, -, -, h2⟩ := h
  exact MP_rc ⟨h1, h2⟩
/-- the reference's world while a new folder comes in: one more place of the row holds -/
def MW1 (D : va_G) (cI cZ : ClassId) (base y0 y1 y2 y3 y6 y7 y8 : Nat) (n came MV th : Int) (F G : Int → Int) (ZN : Int → Int) (SP RF RC : Int → Int) (H : Heap) : Prop := ∃ f g z sp rf rc : Nat → Int32, AR f (n + 1) F ∧ AR g 200 G ∧ AR z 200 ZN ∧ AR sp 9 SP ∧ AR rf 4 RF ∧ AR rc 4 RC ∧ va_P D vwCl (W1 cI cZ y0 y1 y2 y3 y6 y7 y8 n came MV th f g z sp rf rc) H ∧ va_D (fun q => base ≤ q) (W1 cI cZ y0 y1 y2 y3 y6 y7 y8 n came MV th f g z sp rf rc)
def MQ1 (D : va_G) (cI cZ : ClassId) (base st : Nat) (Z : Nat → Nat) (y0 y1 y2 y3 y6 y7 y8 : Nat) (n came MV th : Int) (F G ZN SP RF RC : Int → Int) : State → Heap → Prop := fun U H => SW D cI cZ base st Z U H ∧ MW1 D cI cZ base y0 y1 y2 y3 y6 y7 y8 n came MV th F G ZN SP RF RC H
theorem MQ1_mv {D : va_G} {cI cZ : ClassId} {base st : Nat} {Z : Nat → Nat} {y0 y1 y2 y3 y6 y7 y8 : Nat} {n came MV th : Int} {F G ZN SP RF RC : Int → Int} : mvb (MQ1 D cI cZ base st Z y0 y1 y2 y3 y6 y7 y8 n came MV th F G ZN SP RF RC) := fun _ _ _ hW h => ⟨h.1.move hW, h.2⟩
theorem MQ1_rc {D : va_G} {cI cZ : ClassId} {base st : Nat} {Z : Nat → Nat} {y0 y1 y2 y3 y6 y7 y8 : Nat} {n came MV th : Int} {F G ZN SP RF RC : Int → Int} {s : State} {H : Heap} (h : MQ1 D cI cZ base st Z y0 y1 y2 y3 y6 y7 y8 n came MV th F G ZN SP RF RC s H) : ∃ cellB : Cell, H[y0]? = some cellB ∧ cellB.vm.isStatics = false ∧ s.vm.findClass RX1 = some cellB.cls := by
  obtain ⟨⟨hK, -⟩, f, g, z, sp, rf, rc, -, -, -, -, -, -, hP, -⟩ := h
  exact va_recv hK hP (ci := 1) (q0 := 0) (q := (RX1, TX1, 10)) rfl rfl
