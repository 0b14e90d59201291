/-! the pure words -/
def ip (n v : Int) : Int := if 0 ≤ v ∧ v < n then 1 else 0
def PL (F : Int → Int) (n x r : Int) : Prop := (r = -1 ∧ ∀ k : Int, 0 ≤ k → k < n → F k ≠ x) ∨ (0 ≤ r ∧ r < n ∧ F r = x ∧ ∀ k : Int, 0 ≤ k → k < r → F k ≠ x)
def fa (F : Int → Int) (n v : Int) : Int := if 0 ≤ v ∧ v < n then F v else -1
def ma (G : Int → Int) (n v : Int) : Int := if v < 0 then -1 else if v < n then G v else 256
def FI (G : Int → Int) (n m r : Int) : Prop := (0 ≤ r ∧ r ≤ n) ∧ (∀ k : Int, 0 ≤ k → k < r → G k < m) ∧ (r < n → m ≤ G r)
theorem LM_rg (k : Int) : 1 ≤ LM k ∧ LM k ≤ 73 := by
  unfold LM
  repeat' split
  all_goals omega
/-- how many of the first places a test holds at -/
def cn (P : Int → Bool) : Nat → Int
  | 0 => 0
  | k + 1 => cn P k + (if P (k : Int) = true then 1 else 0)
theorem cn_s (P : Int → Bool) {i : Int} (h : 0 ≤ i) : cn P (i + 1).toNat = cn P i.toNat + (if P i = true then 1 else 0) := by
  obtain ⟨k, rfl⟩ := Int.eq_ofNat_of_zero_le h
  rw [show ((k : Int) + 1).toNat = k + 1 by omega, show ((k : Int)).toNat = k by omega]
  rfl
theorem cn_rg (P : Int → Bool) (k : Nat) : 0 ≤ cn P k ∧ cn P k ≤ k := by
  induction k with
  | zero => simp [cn]
  | succ k ih => simp only [cn]; split <;> omega
theorem cn_ext {P P' : Int → Bool} {k : Nat} (h : ∀ i : Int, 0 ≤ i → i < k → P i = P' i) : cn P k = cn P' k := by
  induction k with
  | zero => rfl
  | succ k ih => simp only [cn]; rw [ih (fun i h0 h1 => h i h0 (by omega)), h k (by omega) (by omega)]
theorem cn_t (P : Int → Bool) {i : Int} (h : 0 ≤ i) (hP : P i = true) : cn P (i + 1).toNat = cn P i.toNat + 1 := by rw [cn_s P h, if_pos hP]
theorem cn_f (P : Int → Bool) {i : Int} (h : 0 ≤ i) (hP : P i = false) : cn P (i + 1).toNat = cn P i.toNat := by rw [cn_s P h, if_neg (by rw [hP]; decide)]; omega
def mb (G : Int → Int) (n m : Int) : Int := cn (fun k => decide (G k < m)) n.toNat
def SD (G : Int → Int) (n : Int) : Prop := ∀ i j : Int, 0 ≤ i → i < j → j < n → G i < G j
theorem FI_un {G : Int → Int} {n m r q : Int} (h : FI G n m r) (h2 : FI G n m q) : r = q := by
  obtain ⟨a1, a2, a3⟩ := h
  obtain ⟨b1, b2, b3⟩ := h2
  rcases (show r < q ∨ q < r ∨ r = q by omega) with h | h | h
  · have := b2 r (by omega) h; have := a3 (by omega); omega
  · have := a2 q (by omega) h; have := b3 (by omega); omega
  · exact h
theorem mb_FI {G : Int → Int} {n : Int} (m : Int) (hn : 0 ≤ n) (hs : SD G n) : FI G n m (mb G n m) := by
  obtain ⟨k, rfl⟩ := Int.eq_ofNat_of_zero_le hn
  have key : ∀ j : Nat, (j : Int) ≤ k → FI G j m (cn (fun k => decide (G k < m)) j) := by
    intro j
    induction j with
    | zero => intro _; exact ⟨by simp [cn], fun k h0 h1 => by simp [cn] at h1; omega, fun h => by simp [cn] at h⟩
    | succ j ih =>
      intro hj
      obtain ⟨a1, a2, a3⟩ := ih (by omega)
      simp only [cn]
      generalize cn (fun k => decide (G k < m)) j = r at a1 a2 a3 ⊢
      by_cases hG : G j < m
      · have hr : r = j := by
          rcases (show r < j ∨ r = j by omega) with h | h
          · have := hs r j a1.1 h (by omega); have := a3 h; omega
          · exact h
        simp only [hG, decide_true, if_true]
        refine ⟨by omega, fun i h0 h1 => ?_, fun h => by omega⟩
        rcases (show i < r ∨ i = j by omega) with q | q
        · exact a2 i h0 q
        · rw [q]; exact hG
      · simp only [hG, decide_false, Bool.false_eq_true, if_false]
        refine ⟨by omega, fun i h0 h1 => a2 i h0 (by omega), fun h => ?_⟩
        rcases (show r + 0 < j ∨ r + 0 = j by omega) with q | q
        · rw [show r + 0 = r by omega]; exact a3 (by omega)
        · rw [q]; omega
  have := key k (Int.le_refl _)
  unfold mb
  rw [show ((k : Int)).toNat = k by omega]
  exact this
theorem mb_rg {G : Int → Int} {n m : Int} (hn : 0 ≤ n) : 0 ≤ mb G n m ∧ mb G n m ≤ n := by
  have := cn_rg (fun k => decide (G k < m)) n.toNat
  unfold mb
  omega
theorem mb_mono {G : Int → Int} {n m m2 : Int} (hn : 0 ≤ n) (hs : SD G n) (h : m ≤ m2) : mb G n m ≤ mb G n m2 := by
  obtain ⟨a1, a2, a3⟩ := mb_FI m hn hs
  obtain ⟨b1, b2, b3⟩ := mb_FI m2 hn hs
  rcases (show mb G n m ≤ mb G n m2 ∨ mb G n m2 < mb G n m by omega) with q | q
  · exact q
  · have := a2 _ b1.1 q; have := b3 (by omega); omega
/-- how many folders a shelf has -/
def ldn (G : Int → Int) (n lv sh : Int) : Int := mb G n ((sh + 1) * 2 ^ lv.toNat) - mb G n (sh * 2 ^ lv.toNat)
theorem p2_cases {lv : Int} (h : 0 ≤ lv ∧ lv ≤ 8) : ((2 : Int) ^ lv.toNat = 1 ∧ lv = 0) ∨ ((2 : Int) ^ lv.toNat = 2 ∧ lv = 1) ∨ ((2 : Int) ^ lv.toNat = 4 ∧ lv = 2) ∨ ((2 : Int) ^ lv.toNat = 8 ∧ lv = 3) ∨ ((2 : Int) ^ lv.toNat = 16 ∧ lv = 4) ∨ ((2 : Int) ^ lv.toNat = 32 ∧ lv = 5) ∨ ((2 : Int) ^ lv.toNat = 64 ∧ lv = 6) ∨ ((2 : Int) ^ lv.toNat = 128 ∧ lv = 7) ∨ ((2 : Int) ^ lv.toNat = 256 ∧ lv = 8) := by
  rcases (show lv = 0 ∨ lv = 1 ∨ lv = 2 ∨ lv = 3 ∨ lv = 4 ∨ lv = 5 ∨ lv = 6 ∨ lv = 7 ∨ lv = 8 by omega) with rfl | rfl | rfl | rfl | rfl | rfl | rfl | rfl | rfl <;> decide
theorem p2_rg {lv : Int} (h : 0 ≤ lv ∧ lv ≤ 8) : 1 ≤ (2 : Int) ^ lv.toNat ∧ (2 : Int) ^ lv.toNat ≤ 256 := by
  rcases p2_cases h with ⟨e, -⟩ | ⟨e, -⟩ | ⟨e, -⟩ | ⟨e, -⟩ | ⟨e, -⟩ | ⟨e, -⟩ | ⟨e, -⟩ | ⟨e, -⟩ | ⟨e, -⟩ <;> rw [e] <;> omega
theorem sh_b {a lv : Int} (ha : 0 ≤ a ∧ a ≤ 255) (h : 0 ≤ lv ∧ lv ≤ 8) : 0 ≤ a / 2 ^ lv.toNat ∧ a / 2 ^ lv.toNat ≤ 255 ∧ a / 2 ^ lv.toNat * 2 ^ lv.toNat ≤ a ∧ (a / 2 ^ lv.toNat + 1) * 2 ^ lv.toNat ≤ 511 ∧ a < (a / 2 ^ lv.toNat + 1) * 2 ^ lv.toNat ∧ 0 ≤ a / 2 ^ lv.toNat * 2 ^ lv.toNat ∧ (a / 2 ^ lv.toNat + 1) * 2 ^ lv.toNat ≤ 256 := by
  rcases p2_cases h with ⟨e, -⟩ | ⟨e, -⟩ | ⟨e, -⟩ | ⟨e, -⟩ | ⟨e, -⟩ | ⟨e, -⟩ | ⟨e, -⟩ | ⟨e, -⟩ | ⟨e, -⟩ <;> rw [e] <;> omega
theorem ldn_rg {G : Int → Int} {n lv sh : Int} (hn : 0 ≤ n ∧ n ≤ 60) (hs : SD G n) (h : sh * 2 ^ lv.toNat ≤ (sh + 1) * 2 ^ lv.toNat) : 0 ≤ ldn G n lv sh ∧ ldn G n lv sh ≤ 60 := by
  have h1 := mb_mono hn.1 hs h
  have h2 := mb_rg (G := G) (m := (sh + 1) * 2 ^ lv.toNat) hn.1
  have h3 := mb_rg (G := G) (m := sh * 2 ^ lv.toNat) hn.1
  unfold ldn
  omega
def LV (G : Int → Int) (n a r : Int) : Prop := (1 ≤ r ∧ r ≤ 8) ∧ (∀ j : Int, 1 ≤ j → j < r → LM j ≤ ldn G n j (a / 2 ^ j.toNat)) ∧ (r < 8 → ldn G n r (a / 2 ^ r.toNat) < LM r)
/-- the new mark of the i-th of t folders that are spread over w marks from lo -/
def nm (lo w t i : Int) : Int := lo + i * w / t
/-- where the k-th of the old folders of a shelf comes to stand among the new ones -/
def np (p beg k : Int) : Int := if beg + k < p then k else k + 1
/-- how many of the first k old folders of a shelf are moved -/
def mvn (G : Int → Int) (p lo w beg t : Int) (k : Nat) : Int := cn (fun i => decide (G (beg + i) ≠ nm lo w t (np p beg i))) k
theorem ma_rg {G : Int → Int} {n : Int} (hG : ∀ k : Int, 0 ≤ k → k < n → 0 ≤ G k ∧ G k ≤ 255) (v : Int) : -1 ≤ ma G n v ∧ ma G n v ≤ 256 := by
  unfold ma
  split
  · omega
  · split
    · have := hG v (by omega) (by omega); omega
    · omega
theorem mul_b {i w : Int} (hi : 0 ≤ i ∧ i ≤ 100) (hw : 0 ≤ w ∧ w ≤ 256) : 0 ≤ i * w ∧ i * w ≤ 25600 := by
  constructor
  · exact Int.mul_nonneg hi.1 hw.1
  · have h1 := Int.mul_le_mul_of_nonneg_left hw.2 hi.1
    omega
theorem nm_rg {lo w t i : Int} (hl : 0 ≤ lo ∧ lo ≤ 65536) (hw : 0 ≤ w ∧ w ≤ 256) (hi : 0 ≤ i ∧ i ≤ 100) (ht : 1 ≤ t) : lo ≤ nm lo w t i ∧ nm lo w t i ≤ 100000 := by
  have h1 := mul_b hi hw
  have h2 := Int.ediv_nonneg h1.1 (show 0 ≤ t by omega)
  have h3 := Int.ediv_le_self (b := t) h1.1
  unfold nm
  omega
theorem ldn_end {G : Int → Int} {n lv sh : Int} (hn : 0 ≤ n ∧ n ≤ 60) : mb G n (sh * 2 ^ lv.toNat) + ldn G n lv sh ≤ n := by
  have h2 := mb_rg (G := G) (m := (sh + 1) * 2 ^ lv.toNat) hn.1
  unfold ldn
  omega
theorem PL_rg {F : Int → Int} {n x r : Int} (hn : 0 ≤ n) (h : PL F n x r) : -1 ≤ r ∧ r < n ∨ r = -1 ∧ n = 0 := by
  rcases h with ⟨h, -⟩ | ⟨h1, h2, -⟩ <;> omega
theorem ma_in {G : Int → Int} {n v : Int} (h : 0 ≤ v ∧ v < n) : G v = ma G n v := by unfold ma; rw [if_neg (by omega), if_pos h.2]
theorem shl_b {lv sh : Int} (h : 0 ≤ lv ∧ lv ≤ 8) (hs : 0 ≤ sh ∧ sh < 256 / 2 ^ lv.toNat) : 256 / 2 ^ lv.toNat ≤ (256 : Int) ∧ 0 ≤ sh * 2 ^ lv.toNat ∧ sh * 2 ^ lv.toNat ≤ 256 ∧ 0 ≤ (sh + 1) * 2 ^ lv.toNat ∧ (sh + 1) * 2 ^ lv.toNat ≤ 256 := by
  rcases p2_cases h with ⟨e, -⟩ | ⟨e, -⟩ | ⟨e, -⟩ | ⟨e, -⟩ | ⟨e, -⟩ | ⟨e, -⟩ | ⟨e, -⟩ | ⟨e, -⟩ | ⟨e, -⟩ <;> rw [e] at hs ⊢ <;> omega
theorem shq_b {lv : Int} (h : 0 ≤ lv ∧ lv ≤ 8) : 1 ≤ 256 / (2 : Int) ^ lv.toNat ∧ 256 / (2 : Int) ^ lv.toNat ≤ 256 := by
  rcases p2_cases h with ⟨e, -⟩ | ⟨e, -⟩ | ⟨e, -⟩ | ⟨e, -⟩ | ⟨e, -⟩ | ⟨e, -⟩ | ⟨e, -⟩ | ⟨e, -⟩ | ⟨e, -⟩ <;> rw [e] <;> omega
theorem ma_q {a lv : Int} (ha : -1 ≤ a ∧ a ≤ 256) (h : 0 ≤ lv ∧ lv ≤ 8) : -1 ≤ a / 2 ^ lv.toNat ∧ a / 2 ^ lv.toNat ≤ 256 := by
  rcases p2_cases h with ⟨e, -⟩ | ⟨e, -⟩ | ⟨e, -⟩ | ⟨e, -⟩ | ⟨e, -⟩ | ⟨e, -⟩ | ⟨e, -⟩ | ⟨e, -⟩ | ⟨e, -⟩ <;> rw [e] <;> omega
