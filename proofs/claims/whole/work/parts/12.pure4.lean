/-! what a folder's coming does to the reference's rows -/
theorem insF_rg {F : Int → Int} {n q x : Int} (hF : ∀ k : Int, 0 ≤ k → k < n → 0 ≤ F k ∧ F k < 200) (hx : 0 ≤ x ∧ x < 200) (hq : 0 ≤ q ∧ q ≤ n) : ∀ k : Int, 0 ≤ k → k ≤ n → 0 ≤ insF F q x k ∧ insF F q x k < 200 := by
  intro k h0 h1
  unfold insF
  split
  · exact hF k h0 (by omega)
  · split
    · exact hx
    · exact hF (k - 1) (by omega) (by omega)
theorem insQ {F G Gp : Int → Int} {n q d fo : Int} (hGM : ∀ k : Int, 0 ≤ k → k < n → G (F k) = Gp k) (hG : ∀ k : Int, 0 ≤ k → k < n → 0 ≤ Gp k ∧ Gp k ≤ 255) (hq : 0 ≤ q ∧ q ≤ n) : ∀ k : Int, 0 ≤ k → k ≤ n → k ≠ q → G (insF F q fo k) = insF Gp q d k ∧ 0 ≤ insF Gp q d k ∧ insF Gp q d k ≤ 255 := by
  intro k h0 h1 h2
  unfold insF
  rcases (show k < q ∨ q < k by omega) with z | z
  · rw [if_pos z, if_pos z]
    exact ⟨hGM k h0 (by omega), hG k h0 (by omega)⟩
  · rw [if_neg (by omega), if_neg (by omega), if_neg (by omega), if_neg (by omega)]
    exact ⟨hGM (k - 1) (by omega) (by omega), hG (k - 1) (by omega) (by omega)⟩
theorem insF_inj {F : Int → Int} {n q x : Int} (hFi : ∀ i j : Int, 0 ≤ i → i < n → 0 ≤ j → j < n → F i = F j → i = j) (hx : ∀ k : Int, 0 ≤ k → k < n → F k ≠ x) (hq : 0 ≤ q ∧ q ≤ n) : ∀ i j : Int, 0 ≤ i → i < n + 1 → 0 ≤ j → j < n + 1 → insF F q x i = insF F q x j → i = j := by
  intro i j h0 h1 h2 h3 h
  unfold insF at h
  rcases (show i < q ∨ i = q ∨ q < i by omega) with a | a | a <;> rcases (show j < q ∨ j = q ∨ q < j by omega) with b | b | b
  · rw [if_pos a, if_pos b] at h; exact hFi i j h0 (by omega) h2 (by omega) h
  · rw [if_pos a, if_neg (by omega), if_pos b] at h; exact absurd h (hx i h0 (by omega))
  · rw [if_pos a, if_neg (by omega), if_neg (by omega)] at h; have := hFi i (j - 1) h0 (by omega) (by omega) (by omega) h; omega
  · rw [if_neg (by omega), if_pos a, if_pos b] at h; exact absurd h.symm (hx j h2 (by omega))
  · omega
  · rw [if_neg (by omega), if_pos a, if_neg (by omega), if_neg (by omega)] at h; exact absurd h.symm (hx (j - 1) (by omega) (by omega))
  · rw [if_neg (by omega), if_neg (by omega), if_pos b] at h; have := hFi (i - 1) j (by omega) (by omega) h2 (by omega) h; omega
  · rw [if_neg (by omega), if_neg (by omega), if_neg (by omega), if_pos b] at h; exact absurd h (hx (i - 1) (by omega) (by omega))
  · rw [if_neg (by omega), if_neg (by omega), if_neg (by omega), if_neg (by omega)] at h; have := hFi (i - 1) (j - 1) (by omega) (by omega) (by omega) (by omega) h; omega
theorem gm_ins {F G Gp : Int → Int} {n q fo mk : Int} (hGM : ∀ k : Int, 0 ≤ k → k < n → G (F k) = Gp k) (hfo : ∀ k : Int, 0 ≤ k → k < n → F k ≠ fo) (hq : 0 ≤ q ∧ q ≤ n) : ∀ k : Int, 0 ≤ k → k < n + 1 → uI G fo mk (insF F q fo k) = insF Gp q mk k := by
  intro k h0 h1
  unfold uI insF
  rcases (show k < q ∨ k = q ∨ q < k by omega) with a | a | a
  · simp only [if_pos a]
    rw [if_neg (hfo k h0 (by omega))]
    exact hGM k h0 (by omega)
  · simp only [if_neg (show ¬ k < q by omega), if_pos a, if_true]
  · simp only [if_neg (show ¬ k < q by omega), if_neg (show ¬ k = q by omega)]
    rw [if_neg (hfo (k - 1) (by omega) (by omega))]
    exact hGM (k - 1) (by omega) (by omega)
theorem ins_in {Gp : Int → Int} {n q lv sh d : Int} (hn : 0 ≤ n) (hs : SD Gp n) (hq : 0 ≤ q ∧ q ≤ n) (hlv : 0 ≤ lv ∧ lv ≤ 8) (hb : mb Gp n (sh * 2 ^ lv.toNat) ≤ q ∧ q ≤ mb Gp n (sh * 2 ^ lv.toNat) + ldn Gp n lv sh) : ∀ k : Int, 0 ≤ k → k < n + 1 → k ≠ q → ((sh * 2 ^ lv.toNat ≤ insF Gp q d k ∧ insF Gp q d k < sh * 2 ^ lv.toNat + 2 ^ lv.toNat) ↔ (mb Gp n (sh * 2 ^ lv.toNat) ≤ k ∧ k < mb Gp n (sh * 2 ^ lv.toNat) + (ldn Gp n lv sh + 1))) := by
  intro k h0 h1 h2
  have hp2 := p2_rg hlv
  have e : sh * 2 ^ lv.toNat + 2 ^ lv.toNat = (sh + 1) * 2 ^ lv.toNat := by rw [Int.add_mul, Int.one_mul]
  have hl : ldn Gp n lv sh = mb Gp n ((sh + 1) * 2 ^ lv.toNat) - mb Gp n (sh * 2 ^ lv.toNat) := rfl
  rw [e]
  unfold insF
  rcases (show k < q ∨ q < k by omega) with z | z
  · rw [if_pos z, in_sh hn hs ⟨h0, by omega⟩ (by omega)]
    omega
  · rw [if_neg (by omega), if_neg (by omega), in_sh hn hs ⟨by omega, by omega⟩ (by omega)]
    omega
theorem dm_new {Gp : Int → Int} {n q lv sh d w : Int} (hn : 0 ≤ n) (hs : SD Gp n) (hb : mb Gp n (sh * 2 ^ lv.toNat) ≤ q ∧ q ≤ mb Gp n (sh * 2 ^ lv.toNat) + ldn Gp n lv sh) (hbg : 0 ≤ mb Gp n (sh * 2 ^ lv.toNat) ∧ mb Gp n (sh * 2 ^ lv.toNat) ≤ n) :
    mvn Gp q (sh * 2 ^ lv.toNat) w (mb Gp n (sh * 2 ^ lv.toNat)) (ldn Gp n lv sh + 1) (ldn Gp n lv sh).toNat = cn (fun i => decide (mb Gp n (sh * 2 ^ lv.toNat) + i ≠ q ∧ insF Gp q d (mb Gp n (sh * 2 ^ lv.toNat) + i) ≠ nm (sh * 2 ^ lv.toNat) w (ldn Gp n lv sh + 1) i)) (ldn Gp n lv sh + 1).toNat := by
  rw [mv_new (G := Gp) (Q := insF Gp q d) ⟨hbg.1, hb.1, by omega⟩ (fun k h0 h1 h2 => by
    unfold insF
    rcases (show k < q ∨ q < k by omega) with z | z
    · rw [if_pos z, if_pos z]
    · rw [if_neg (by omega), if_neg (by omega), if_neg (by omega)]), show ldn Gp n lv sh + 1 - 1 = ldn Gp n lv sh by omega]
theorem sp_gm {F G G9 Gp : Int → Int} {n q fo lo w bg t : Int} (hGM : ∀ k : Int, 0 ≤ k → k < n → G (F k) = Gp k) (hq : 0 ≤ q ∧ q ≤ n) (hb : bg ≤ q ∧ q ≤ bg + t) (hbg : 0 ≤ bg ∧ bg ≤ n)
    (h : ∀ j : Int, 0 ≤ j → j < n + 1 → G9 (insF F q fo j) = if bg ≤ j ∧ j < bg + (t + 1) then nm lo w (t + 1) (j - bg) else G (insF F q fo j)) : ∀ k : Int, 0 ≤ k → k < n + 1 → G9 (insF F q fo k) = spG Gp lo w bg (t + 1) k := by
  intro k h0 h1
  rw [h k h0 h1]
  unfold spG
  rcases (show k < bg ∨ bg ≤ k ∧ k < bg + (t + 1) ∨ bg + (t + 1) ≤ k by omega) with z | z | z
  · rw [if_neg (by omega), if_pos z]
    unfold insF
    rw [if_pos (by omega)]
    exact hGM k h0 (by omega)
  · rw [if_pos z, if_neg (by omega), if_pos z.2]
  · rw [if_neg (by omega), if_neg (by omega), if_neg (by omega)]
    unfold insF
    rw [if_neg (by omega), if_neg (by omega)]
    exact hGM (k - 1) (by omega) (by omega)
