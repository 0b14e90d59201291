/-! the pure words of what changes -/
def insF (F : Int → Int) (p x : Int) : Int → Int := fun k => if k < p then F k else if k = p then x else F (k - 1)
def remF (F : Int → Int) (p : Int) : Int → Int := fun k => if k < p then F k else F (k + 1)
def sendF (RF : Int → Int) (x nx : Int) : Int → Int := fun k => if RF k = x then nx else RF k
def spG (G : Int → Int) (lo w bg t : Int) : Int → Int := fun k => if k < bg then G k else if k < bg + t then nm lo w t (k - bg) else G (k - 1)
def A0 (G : Int → Int) (n q : Int) : Int := if ma G n (q - 1) < 0 then 0 else ma G n (q - 1)
/-- where a folder comes in: the marks behind it, how many are moved, the levels' counts behind it -/
def PT (G : Int → Int) (n q : Int) (SP G2 : Int → Int) (dm : Int) (SP2 : Int → Int) : Prop :=
  (2 ≤ ma G n q - ma G n (q - 1) ∧ G2 = insF G q ((ma G n (q - 1) + ma G n q) / 2) ∧ dm = 0 ∧ SP2 = SP) ∨
  (ma G n q - ma G n (q - 1) < 2 ∧ ∃ lv, LV G n (A0 G n q) lv ∧
    G2 = spG G (A0 G n q / 2 ^ lv.toNat * 2 ^ lv.toNat) (2 ^ lv.toNat) (mb G n (A0 G n q / 2 ^ lv.toNat * 2 ^ lv.toNat)) (ldn G n lv (A0 G n q / 2 ^ lv.toNat) + 1) ∧
    dm = mvn G q (A0 G n q / 2 ^ lv.toNat * 2 ^ lv.toNat) (2 ^ lv.toNat) (mb G n (A0 G n q / 2 ^ lv.toNat * 2 ^ lv.toNat)) (ldn G n lv (A0 G n q / 2 ^ lv.toNat) + 1) (ldn G n lv (A0 G n q / 2 ^ lv.toNat)).toNat ∧
    SP2 = uI SP lv (SP lv + 1))
theorem A0_rg {G : Int → Int} {n q : Int} (hG : ∀ k : Int, 0 ≤ k → k < n → 0 ≤ G k ∧ G k ≤ 255) (hq : 0 ≤ q ∧ q ≤ n) : 0 ≤ A0 G n q ∧ A0 G n q ≤ 255 := by
  unfold A0
  by_cases h : q - 1 < 0
  · rw [show ma G n (q - 1) = -1 by unfold ma; rw [if_pos h], if_pos (by omega)]; omega
  · have := hG (q - 1) (by omega) (by omega)
    rw [← ma_in (G := G) (n := n) (v := q - 1) (by omega), if_neg (by omega)]
    exact this
theorem ins_fin {F F2 : Int → Int} {n p x : Int} (hp : p ≤ n) (h1 : ∀ k : Int, 0 ≤ k → k ≤ p → k < n → F2 k = F k) (h2 : ∀ k : Int, p < k → k ≤ n → F2 k = F (k - 1)) : ∀ k : Int, 0 ≤ k → k < n + 1 → uI F2 p x k = insF F p x k := by
  intro k h0 h3
  unfold uI insF
  rcases (show k < p ∨ k = p ∨ p < k by omega) with q | q | q
  · rw [if_neg (by omega), if_pos q, h1 k h0 (by omega) (by omega)]
  · rw [if_pos q, if_neg (by omega), if_pos q]
  · rw [if_neg (by omega), if_neg (by omega), if_neg (by omega), h2 k q (by omega)]
/-- a shelf that is spread out begins at the new folder's place or ahead of it, and ends there or behind -/
theorem bg_q {G : Int → Int} {n q lv : Int} (hn : 0 ≤ n ∧ n ≤ 60) (hG : ∀ k : Int, 0 ≤ k → k < n → 0 ≤ G k ∧ G k ≤ 255) (hs : SD G n) (hq : 0 ≤ q ∧ q ≤ n) (hlv : 0 ≤ lv ∧ lv ≤ 8) :
    mb G n (A0 G n q / 2 ^ lv.toNat * 2 ^ lv.toNat) ≤ q ∧ q ≤ mb G n (A0 G n q / 2 ^ lv.toNat * 2 ^ lv.toNat) + ldn G n lv (A0 G n q / 2 ^ lv.toNat) := by
  have har := A0_rg hG hq
  have hsb := sh_b har hlv
  have e1 : q = 0 ∧ A0 G n q = 0 ∨ 0 < q ∧ A0 G n q = G (q - 1) := by
    unfold A0
    by_cases h : q - 1 < 0
    · rw [show ma G n (q - 1) = -1 by unfold ma; rw [if_pos h], if_pos (by omega)]; left; exact ⟨by omega, rfl⟩
    · have := hG (q - 1) (by omega) (by omega)
      rw [← ma_in (G := G) (n := n) (v := q - 1) (by omega), if_neg (by omega)]; right; exact ⟨by omega, rfl⟩
  generalize hsh : A0 G n q / 2 ^ lv.toNat = sh at hsb ⊢
  obtain ⟨a1, a2, a3⟩ := mb_FI (G := G) (n := n) (sh * 2 ^ lv.toNat) hn.1 hs
  obtain ⟨b1, b2, b3⟩ := mb_FI (G := G) (n := n) ((sh + 1) * 2 ^ lv.toNat) hn.1 hs
  unfold ldn
  constructor
  · rcases (show mb G n (sh * 2 ^ lv.toNat) ≤ q ∨ q < mb G n (sh * 2 ^ lv.toNat) by omega) with h | h
    · exact h
    · have h1 := a2 q hq.1 h
      have h2 := hG q hq.1 (by omega)
      rcases e1 with ⟨e, e2⟩ | ⟨e, e2⟩
      · omega
      · have := hs (q - 1) q (by omega) (by omega) (by omega); omega
  · rcases (show q ≤ mb G n ((sh + 1) * 2 ^ lv.toNat) ∨ mb G n ((sh + 1) * 2 ^ lv.toNat) < q by omega) with h | h
    · omega
    · rcases e1 with ⟨e, e2⟩ | ⟨e, e2⟩
      · omega
      · have h1 := b3 (by omega)
        rcases (show mb G n ((sh + 1) * 2 ^ lv.toNat) = q - 1 ∨ mb G n ((sh + 1) * 2 ^ lv.toNat) < q - 1 by omega) with h2 | h2
        · rw [h2] at h1; omega
        · have := hs _ (q - 1) b1.1 h2 (by omega); omega
theorem sp_fin {G G2 : Int → Int} {n q lo w bg t i : Int} (hb : 0 ≤ bg ∧ bg ≤ q ∧ q < bg + t ∧ bg + t ≤ n + 1) (hi : i = t) (h : ∀ k : Int, 0 ≤ k → k < n + 1 → G2 k = if bg ≤ k ∧ k < bg + i then nm lo w t (k - bg) else insF G q lo k) : ∀ k : Int, 0 ≤ k → k < n + 1 → G2 k = spG G lo w bg t k := by
  intro k h0 h1
  rw [h k h0 h1]
  unfold spG insF
  subst hi
  rcases (show k < bg ∨ bg ≤ k ∧ k < bg + i ∨ bg + i ≤ k by omega) with z | z | z
  · rw [if_neg (by omega), if_pos (by omega), if_pos z]
  · rw [if_pos z, if_neg (by omega), if_pos z.2]
  · rw [if_neg (by omega), if_neg (by omega), if_neg (by omega), if_neg (by omega), if_neg (by omega)]
def plN (F : Int → Int) (x : Int) : Nat → Int
  | 0 => -1
  | k + 1 => if plN F x k = -1 then (if F (k : Int) = x then (k : Int) else -1) else plN F x k
/-- the first place of a folder in the row, or -1 -/
def pl (F : Int → Int) (n x : Int) : Int := plN F x n.toNat
theorem pl_PL {F : Int → Int} {n : Int} (hn : 0 ≤ n) (x : Int) : PL F n x (pl F n x) := by
  obtain ⟨m, rfl⟩ := Int.eq_ofNat_of_zero_le hn
  unfold pl
  rw [show ((m : Int)).toNat = m by omega]
  induction m with
  | zero => exact Or.inl ⟨rfl, fun k h0 h1 => by omega⟩
  | succ m ih =>
    have ih := ih (by omega)
    simp only [plN]
    generalize plN F x m = r at ih ⊢
    rcases ih with ⟨e, h⟩ | ⟨h1, h2, h3, h4⟩
    · rw [if_pos e]
      by_cases hx : F m = x
      · rw [if_pos hx]
        exact Or.inr ⟨by omega, by omega, hx, fun k h0 h1 => h k h0 h1⟩
      · rw [if_neg hx]
        refine Or.inl ⟨rfl, fun k h0 h1 => ?_⟩
        rcases (show k < m ∨ k = m by omega) with q | q
        · exact h k h0 q
        · rw [q]; exact hx
    · rw [if_neg (by omega)]
      exact Or.inr ⟨h1, by omega, h3, h4⟩
/-- the readers' folders and counts behind a day -/
def pdF (F : Int → Int) (n : Int) (RF : Int → Int) : Int → Int := fun k => if pl F n (RF k) = -1 then RF k else fa F n (pl F n (RF k) + 1)
def pdC (F : Int → Int) (n : Int) (RF RC : Int → Int) : Int → Int := fun k => if pl F n (RF k) = -1 then RC k else RC k + 1
theorem fa_rg {F : Int → Int} {n : Int} (hF : ∀ k : Int, 0 ≤ k → k < n → 0 ≤ F k ∧ F k < 200) (v : Int) : -1 ≤ fa F n v ∧ fa F n v < 200 := by
  unfold fa
  split
  · have := hF v (by omega) (by omega); omega
  · omega
theorem PL_x {F : Int → Int} {n x r : Int} (hF : ∀ k : Int, 0 ≤ k → k < n → 0 ≤ F k ∧ F k < 200) (h0 : 0 ≤ r) (h : PL F n x r) : 0 ≤ x ∧ x < 200 := by
  rcases h with ⟨h, -⟩ | ⟨h1, h2, h3, -⟩
  · omega
  · rw [← h3]; exact hF r h1 h2
