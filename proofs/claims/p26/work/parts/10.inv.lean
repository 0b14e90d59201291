theorem PL_un {F : Int → Int} {n x r q : Int} (h : PL F n x r) (h2 : PL F n x q) : r = q := by
  rcases h with ⟨e, a⟩ | ⟨a1, a2, a3, a4⟩ <;> rcases h2 with ⟨e2, b⟩ | ⟨b1, b2, b3, b4⟩
  · omega
  · exact absurd b3 (a q b1 b2)
  · exact absurd a3 (b r a1 a2)
  · rcases (show r < q ∨ q < r ∨ r = q by omega) with z | z | z
    · exact absurd a3 (b4 r a1 z)
    · exact absurd b3 (a4 q b1 z)
    · exact z
/-! what a folder's coming does to the reference's rows -/
theorem insF_rg {F : Int → Int} {n q x : Int} (hF : ∀ k : Int, 0 ≤ k → k < n → 0 ≤ F k ∧ F k < 200) (hx : 0 ≤ x ∧ x < 200) (hq : 0 ≤ q ∧ q ≤ n) : ∀ k : Int, 0 ≤ k → k ≤ n → 0 ≤ insF F q x k ∧ insF F q x k < 200 := by
  intro k h0 h1
  unfold insF
  split
  · exact hF k h0 (by omega)
  · split
    · exact hx
    · exact hF (k - 1) (by omega) (by omega)
theorem insF_inj {F : Int → Int} {n q x : Int} (hFi : ∀ i j : Int, 0 ≤ i → i < n → 0 ≤ j → j < n → F i = F j → i = j) (hx : ∀ k : Int, 0 ≤ k → k < n → F k ≠ x) (hq : 0 ≤ q ∧ q ≤ n) : ∀ i j : Int, 0 ≤ i → i < n + 1 → 0 ≤ j → j < n + 1 → insF F q x i = insF F q x j → i = j := by
  intro i j h0 h1 h2 h3 h
  unfold insF at h
  rcases (show i < q ∨ i = q ∨ q < i by omega) with a | a | a <;> rcases (show j < q ∨ j = q ∨ q < j by omega) with b | b | b
  · rw [if_pos a, if_pos b] at h; exact hFi i j h0 (by omega) h2 (by omega) h
  · rw [if_pos a, if_neg (by omega), if_pos b] at h; exact absurd h (hx i h0 (by omega))
  · rw [if_pos a, if_neg (by omega), if_neg (by omega)] at h; have := hFi i (j - 1) h0 (by omega) (by omega) (by omega) h; omega
  · rw [if_neg (by omega), if_pos a, if_pos b] at h; exact absurd h.symm (hx j h2 (by omega))
  · omega
  · rw [if_neg (by omega), if_pos a, if_neg (by omega), if_neg (by omega)] at h; exact absurd h.symm (hx (j - 1) (by omega) (by omega))
  · rw [if_neg (by omega), if_neg (by omega), if_pos b] at h; have := hFi (i - 1) j (by omega) (by omega) h2 (by omega) h; omega
  · rw [if_neg (by omega), if_neg (by omega), if_neg (by omega), if_pos b] at h; exact absurd h (hx (i - 1) (by omega) (by omega))
  · rw [if_neg (by omega), if_neg (by omega), if_neg (by omega), if_neg (by omega)] at h; have := hFi (i - 1) (j - 1) (by omega) (by omega) (by omega) (by omega) h; omega
theorem PL_p {F : Int → Int} {n x rp : Int} (h : PL F n x rp) (h0 : 0 ≤ rp) : 0 ≤ rp ∧ rp < n ∧ F rp = x := by
  rcases h with ⟨e, -⟩ | ⟨a, b, c, -⟩
  · omega
  · exact ⟨a, b, c⟩
theorem rem_rg {F : Int → Int} {n rp : Int} {P : Int → Prop} (hF : ∀ k : Int, 0 ≤ k → k < n → P (F k)) (hr : 0 ≤ rp ∧ rp < n) : ∀ k : Int, 0 ≤ k → k < n - 1 → P (remF F rp k) := by
  intro k h0 h1
  unfold remF
  split
  · exact hF k h0 (by omega)
  · exact hF (k + 1) (by omega) (by omega)
theorem rem_inj {F : Int → Int} {n rp : Int} (hFi : ∀ i j : Int, 0 ≤ i → i < n → 0 ≤ j → j < n → F i = F j → i = j) (hr : 0 ≤ rp ∧ rp < n) : ∀ i j : Int, 0 ≤ i → i < n - 1 → 0 ≤ j → j < n - 1 → remF F rp i = remF F rp j → i = j := by
  intro i j h0 h1 h2 h3 h
  unfold remF at h
  split at h <;> split at h
  · exact hFi i j h0 (by omega) h2 (by omega) h
  · have := hFi i (j + 1) h0 (by omega) (by omega) (by omega) h; omega
  · have := hFi (i + 1) j (by omega) (by omega) h2 (by omega) h; omega
  · have := hFi (i + 1) (j + 1) (by omega) (by omega) (by omega) (by omega) h; omega
theorem rem_ne {F : Int → Int} {n rp : Int} (hFi : ∀ i j : Int, 0 ≤ i → i < n → 0 ≤ j → j < n → F i = F j → i = j) (hr : 0 ≤ rp ∧ rp < n) : ∀ k : Int, 0 ≤ k → k < n - 1 → remF F rp k ≠ F rp := by
  intro k h0 h1 h
  unfold remF at h
  split at h
  · have := hFi k rp h0 (by omega) hr.1 hr.2 h; omega
  · have := hFi (k + 1) rp (by omega) (by omega) hr.1 hr.2 h; omega
theorem rem_SD {G : Int → Int} {n rp : Int} (hs : SD G n) (hr : 0 ≤ rp ∧ rp < n) : SD (remF G rp) (n - 1) := by
  intro i j h0 h1 h2
  unfold remF
  split <;> split
  · exact hs i j h0 h1 (by omega)
  · exact hs i (j + 1) h0 (by omega) (by omega)
  · omega
  · exact hs (i + 1) (j + 1) (by omega) (by omega) (by omega)
theorem pl_m1 {F : Int → Int} {n x : Int} (hn : 0 ≤ n) (hF : ∀ k : Int, 0 ≤ k → k < n → 0 ≤ F k ∧ F k < 200) (hx : x = -1) : pl F n x = -1 := by
  rcases pl_PL (F := F) hn x with ⟨e, -⟩ | ⟨a1, a2, a3, -⟩
  · exact e
  · have := hF _ a1 a2; omega
theorem SD_inj {G : Int → Int} {n i j : Int} (hs : SD G n) (hi : 0 ≤ i ∧ i < n) (hj : 0 ≤ j ∧ j < n) (h : G i = G j) : i = j := by
  rcases (show i < j ∨ j < i ∨ i = j by omega) with z | z | z
  · have := hs i j hi.1 z hj.2; omega
  · have := hs j i hj.1 z hi.2; omega
  · exact z
/-! a folder that is lifted out and put in again -/
theorem rem_in {F : Int → Int} {n rp r x : Int} (hr : 0 ≤ rp ∧ rp < n) (hq : 0 ≤ r ∧ r < n ∧ F r = x) (hne : r ≠ rp) : ∃ j : Int, 0 ≤ j ∧ j < n - 1 ∧ remF F rp j = x := by
  rcases (show r < rp ∨ rp < r by omega) with z | z
  · exact ⟨r, hq.1, by omega, by unfold remF; rw [if_pos z, hq.2.2]⟩
  · exact ⟨r - 1, by omega, by omega, by unfold remF; rw [if_neg (by omega), show r - 1 + 1 = r by omega, hq.2.2]⟩
theorem ins_PL {F : Int → Int} {n q x N : Int} (hne : ∀ k : Int, 0 ≤ k → k < n → F k ≠ x) (hq : 0 ≤ q ∧ q ≤ n) (hN : q < N) : PL (insF F q x) N x q := by
  refine Or.inr ⟨hq.1, hN, ?_, fun k h0 h1 => ?_⟩
  · unfold insF
    rw [if_neg (by omega), if_pos rfl]
  · unfold insF
    rw [if_pos h1]
    exact hne k h0 (by omega)
/-! the whole invariant, and that it stays -/
def INV (n came : Int) (F G RF : Int → Int) : Prop := (0 ≤ n ∧ n ≤ 60) ∧ (0 ≤ came ∧ came ≤ 200) ∧ (∀ k : Int, 0 ≤ k → k < n → 0 ≤ F k ∧ F k < 200) ∧ (∀ k : Int, 0 ≤ k → k < n → F k < came) ∧ (∀ i j : Int, 0 ≤ i → i < n → 0 ≤ j → j < n → F i = F j → i = j) ∧ (∀ k : Int, 0 ≤ k → k < n → 0 ≤ G k ∧ G k ≤ 255) ∧ SD G n ∧ (∀ k : Int, 0 ≤ k → k < 4 → RF k = -1 ∨ ∃ j : Int, 0 ≤ j ∧ j < n ∧ F j = RF k)
theorem INV_RF {n came : Int} {F G RF : Int → Int} (h : INV n came F G RF) : ∀ k : Int, 0 ≤ k → k < 4 → -1 ≤ RF k ∧ RF k < 200 := by
  intro k h0 h1
  rcases h.2.2.2.2.2.2.2 k h0 h1 with e | ⟨j, a1, a2, a3⟩
  · omega
  · rw [← a3]; have := h.2.2.1 j a1 a2; omega
theorem pl_in {F : Int → Int} {n x : Int} (hn : 0 ≤ n) (h : ∃ j : Int, 0 ≤ j ∧ j < n ∧ F j = x) : 0 ≤ pl F n x := by
  obtain ⟨j, a1, a2, a3⟩ := h
  rcases pl_PL (F := F) hn x with ⟨-, e⟩ | ⟨b, -⟩
  · exact absurd a3 (e j a1 a2)
  · exact b
theorem INV_RI {n came : Int} {F G RF : Int → Int} (h : INV n came F G RF) : ∀ k : Int, 0 ≤ k → k < 4 → RF k = -1 ∨ 0 ≤ pl F n (RF k) := fun k h0 h1 => (h.2.2.2.2.2.2.2 k h0 h1).imp id (fun e => pl_in h.1.1 e)
theorem INV_pl {n came : Int} {F G RF : Int → Int} (h : INV n came F G RF) : ∀ k : Int, 0 ≤ k → k < 4 → RF k = -1 ∧ pl F n (RF k) = -1 ∨ RF k ≠ -1 ∧ 0 ≤ pl F n (RF k) := by
  intro k h0 h1
  by_cases e : RF k = -1
  · exact Or.inl ⟨e, pl_m1 h.1.1 h.2.2.1 e⟩
  · rcases INV_RI h k h0 h1 with z | z
    · exact absurd z e
    · exact Or.inr ⟨e, z⟩
theorem LM_p2 {lv : Int} (h : 1 ≤ lv ∧ lv < 8) : LM lv ≤ 2 ^ lv.toNat := by
  rcases (show lv = 1 ∨ lv = 2 ∨ lv = 3 ∨ lv = 4 ∨ lv = 5 ∨ lv = 6 ∨ lv = 7 by omega) with rfl | rfl | rfl | rfl | rfl | rfl | rfl <;> decide
theorem nm_lt {lo w t i j : Int} (ht : 1 ≤ t ∧ t ≤ w) (hi : 0 ≤ i) (hj : i < j) : nm lo w t i < nm lo w t j := by
  have h1 : i * w + t ≤ j * w := by
    have h2 : (i + 1) * w ≤ j * w := Int.mul_le_mul_of_nonneg_right (by omega) (by omega)
    rw [Int.add_mul, Int.one_mul] at h2
    omega
  have h3 : (i * w + t) / t ≤ j * w / t := Int.ediv_le_ediv (by omega) h1
  have h4 : (i * w + t) / t = i * w / t + 1 := by
    have := Int.add_mul_ediv_right (i * w) 1 (show t ≠ 0 by omega)
    rw [Int.one_mul] at this
    exact this
  unfold nm
  omega
theorem nm_hi {lo w t i : Int} (ht : 1 ≤ t ∧ t ≤ w) (hi : 0 ≤ i ∧ i < t) : lo ≤ nm lo w t i ∧ nm lo w t i < lo + w := by
  have h1 : i * w < w * t := by
    have h2 : (i + 1) * w ≤ t * w := Int.mul_le_mul_of_nonneg_right (by omega) (by omega)
    rw [Int.add_mul, Int.one_mul] at h2
    rw [Int.mul_comm w t]
    omega
  have h2 := Int.ediv_lt_of_lt_mul (show 0 < t by omega) h1
  have h3 := Int.ediv_nonneg (Int.mul_nonneg hi.1 (show 0 ≤ w by omega)) (show 0 ≤ t by omega)
  unfold nm
  omega
theorem SD_le {G : Int → Int} {n i j : Int} (hs : SD G n) (h0 : 0 ≤ i) (h1 : i ≤ j) (h2 : j < n) : G i ≤ G j := by
  rcases (show i < j ∨ i = j by omega) with z | z
  · have := hs i j h0 z h2; omega
  · rw [z]; omega
theorem ins_ok {G : Int → Int} {n q m : Int} (hG : ∀ k : Int, 0 ≤ k → k < n → 0 ≤ G k ∧ G k ≤ 255) (hs : SD G n) (hq : 0 ≤ q ∧ q ≤ n) (h1 : ma G n (q - 1) < m) (h2 : m < ma G n q) : (∀ k : Int, 0 ≤ k → k < n + 1 → 0 ≤ insF G q m k ∧ insF G q m k ≤ 255) ∧ SD (insF G q m) (n + 1) := by
  have hb1 := ma_rg hG (q - 1)
  have hb2 := ma_rg hG q
  have lo : ∀ i : Int, 0 ≤ i → i < q → G i < m := by
    intro i a1 a2
    have e := ma_in (G := G) (n := n) (v := q - 1) (by omega)
    have := SD_le hs a1 (show i ≤ q - 1 by omega) (by omega)
    omega
  have hi : ∀ i : Int, q ≤ i → i < n → m < G i := by
    intro i a1 a2
    have e := ma_in (G := G) (n := n) (v := q) (by omega)
    have := SD_le hs hq.1 a1 a2
    omega
  constructor
  · intro k h0 h3
    unfold insF
    split
    · exact hG k h0 (by omega)
    · split
      · omega
      · exact hG (k - 1) (by omega) (by omega)
  · intro i j h0 h3 h4
    unfold insF
    rcases (show i < q ∨ i = q ∨ q < i by omega) with a | a | a <;> rcases (show j < q ∨ j = q ∨ q < j by omega) with b | b | b
    · rw [if_pos a, if_pos b]; exact hs i j h0 h3 (by omega)
    · rw [if_pos a, if_neg (by omega), if_pos b]; exact lo i h0 a
    · rw [if_pos a, if_neg (by omega), if_neg (by omega)]; have := lo i h0 a; have := hi (j - 1) (by omega) (by omega); omega
    · omega
    · omega
    · rw [if_neg (by omega), if_pos a, if_neg (by omega), if_neg (by omega)]; exact hi (j - 1) (by omega) (by omega)
    · omega
    · omega
    · rw [if_neg (by omega), if_neg (by omega), if_neg (by omega), if_neg (by omega)]; exact hs (i - 1) (j - 1) (by omega) (by omega) (by omega)
theorem sp_ok {G : Int → Int} {n lo w : Int} (hn : 0 ≤ n) (hG : ∀ k : Int, 0 ≤ k → k < n → 0 ≤ G k ∧ G k ≤ 255) (hs : SD G n) (hlo : 0 ≤ lo ∧ lo + w ≤ 256 ∧ 1 ≤ w) (ht : mb G n (lo + w) - mb G n lo + 1 ≤ w) : (∀ k : Int, 0 ≤ k → k < n + 1 → 0 ≤ spG G lo w (mb G n lo) (mb G n (lo + w) - mb G n lo + 1) k ∧ spG G lo w (mb G n lo) (mb G n (lo + w) - mb G n lo + 1) k ≤ 255) ∧ SD (spG G lo w (mb G n lo) (mb G n (lo + w) - mb G n lo + 1)) (n + 1) := by
  obtain ⟨a1, a2, a3⟩ := mb_FI (G := G) lo hn hs
  obtain ⟨b1, b2, b3⟩ := mb_FI (G := G) (lo + w) hn hs
  have hmm := mb_mono (G := G) hn hs (show lo ≤ lo + w by omega)
  generalize mb G n lo = bg at *
  generalize mb G n (lo + w) = en at *
  have hN : ∀ i : Int, 0 ≤ i → i < en - bg + 1 → lo ≤ nm lo w (en - bg + 1) i ∧ nm lo w (en - bg + 1) i < lo + w := fun i c1 c2 => nm_hi ⟨by omega, ht⟩ ⟨c1, c2⟩
  have hE : ∀ i : Int, en ≤ i → i < n → lo + w ≤ G i := by
    intro i c1 c2
    have := b3 (by omega)
    have := SD_le hs b1.1 c1 c2
    omega
  constructor
  · intro k h0 h1
    unfold spG
    split
    · exact hG k h0 (by omega)
    · split
      · have := hN (k - bg) (by omega) (by omega); omega
      · exact hG (k - 1) (by omega) (by omega)
  · intro i j h0 h3 h4
    unfold spG
    rcases (show i < bg ∨ bg ≤ i ∧ i < bg + (en - bg + 1) ∨ bg + (en - bg + 1) ≤ i by omega) with a | a | a <;> rcases (show j < bg ∨ bg ≤ j ∧ j < bg + (en - bg + 1) ∨ bg + (en - bg + 1) ≤ j by omega) with b | b | b
    · rw [if_pos a, if_pos b]; exact hs i j h0 h3 (by omega)
    · rw [if_pos a, if_neg (by omega), if_pos b.2]; have := a2 i h0 a; have := hN (j - bg) (by omega) (by omega); omega
    · rw [if_pos a, if_neg (by omega), if_neg (by omega)]; have := a2 i h0 a; have := hE (j - 1) (by omega) (by omega); omega
    · omega
    · rw [if_neg (by omega), if_pos a.2, if_neg (by omega), if_pos b.2]; exact nm_lt ⟨by omega, ht⟩ (by omega) (by omega)
    · rw [if_neg (by omega), if_pos a.2, if_neg (by omega), if_neg (by omega)]; have := hN (i - bg) (by omega) (by omega); have := hE (j - 1) (by omega) (by omega); omega
    · omega
    · omega
    · rw [if_neg (by omega), if_neg (by omega), if_neg (by omega), if_neg (by omega)]; exact hs (i - 1) (j - 1) (by omega) (by omega) (by omega)
theorem PT_ok {G SP G2 SP2 : Int → Int} {n q dm : Int} (hn : 0 ≤ n ∧ n < 60) (hG : ∀ k : Int, 0 ≤ k → k < n → 0 ≤ G k ∧ G k ≤ 255) (hs : SD G n) (hq : 0 ≤ q ∧ q ≤ n) (h : PT G n q SP G2 dm SP2) : (∀ k : Int, 0 ≤ k → k < n + 1 → 0 ≤ G2 k ∧ G2 k ≤ 255) ∧ SD G2 (n + 1) := by
  have hb1 := ma_rg hG (q - 1)
  have hb2 := ma_rg hG q
  rcases h with ⟨h1, rfl, -, -⟩ | ⟨h1, lv, hlv, rfl, -, -⟩
  · exact ins_ok hG hs hq (by omega) (by omega)
  · have har := A0_rg hG hq
    have hlv1 := hlv.1
    have hsb := sh_b (lv := lv) har (by omega)
    have hp2 := p2_rg (lv := lv) (by omega)
    have hld := ldn_rg (G := G) (lv := lv) (sh := A0 G n q / 2 ^ lv.toNat) (n := n) (by omega) hs (by omega)
    have hle := mb_rg (G := G) (m := (A0 G n q / 2 ^ lv.toNat + 1) * 2 ^ lv.toNat) hn.1
    have hle2 := mb_rg (G := G) (m := A0 G n q / 2 ^ lv.toNat * 2 ^ lv.toNat) hn.1
    have e : A0 G n q / 2 ^ lv.toNat * 2 ^ lv.toNat + 2 ^ lv.toNat = (A0 G n q / 2 ^ lv.toNat + 1) * 2 ^ lv.toNat := by rw [Int.add_mul, Int.one_mul]
    have ht : ldn G n lv (A0 G n q / 2 ^ lv.toNat) + 1 ≤ 2 ^ lv.toNat := by
      rcases (show lv < 8 ∨ lv = 8 by omega) with z | z
      · have := hlv.2.2 z; have := LM_p2 (lv := lv) ⟨by omega, z⟩; omega
      · have : ldn G n lv (A0 G n q / 2 ^ lv.toNat) ≤ n := by unfold ldn; omega
        have : (2 : Int) ^ lv.toNat = 256 := by rw [z]; decide
        omega
    have := sp_ok (G := G) (n := n) (lo := A0 G n q / 2 ^ lv.toNat * 2 ^ lv.toNat) (w := 2 ^ lv.toNat) hn.1 hG hs ⟨by omega, by omega, by omega⟩ (by rw [e]; exact ht)
    rw [e] at this
    exact this
theorem LV_ex (G : Int → Int) (n a : Int) : ∃ r, LV G n a r := by
  have key : ∀ m : Nat, m ≤ 7 → (∃ r, LV G n a r) ∨ (∀ j : Int, 1 ≤ j → j ≤ m → LM j ≤ ldn G n j (a / 2 ^ j.toNat)) := by
    intro m
    induction m with
    | zero => intro _; exact Or.inr (fun j h0 h1 => by omega)
    | succ m ih =>
      intro hm
      rcases ih (by omega) with h | h
      · exact Or.inl h
      · by_cases e : LM ((m : Int) + 1) ≤ ldn G n ((m : Int) + 1) (a / 2 ^ ((m : Int) + 1).toNat)
        · refine Or.inr (fun j h0 h1 => ?_)
          rcases (show j ≤ m ∨ j = (m : Int) + 1 by omega) with z | z
          · exact h j h0 z
          · rw [z]; exact e
        · exact Or.inl ⟨(m : Int) + 1, ⟨by omega, by omega⟩, fun j h0 h1 => h j h0 (by omega), fun _ => by omega⟩
  rcases key 7 (Nat.le_refl _) with h | h
  · exact h
  · exact ⟨8, ⟨by omega, by omega⟩, fun j h0 h1 => h j h0 (by omega), fun h => by omega⟩
theorem PT_ex (G : Int → Int) (n q : Int) (SP : Int → Int) : ∃ G2 dm SP2, PT G n q SP G2 dm SP2 := by
  by_cases h : 2 ≤ ma G n q - ma G n (q - 1)
  · exact ⟨_, _, _, Or.inl ⟨h, rfl, rfl, rfl⟩⟩
  · obtain ⟨lv, hlv⟩ := LV_ex G n (A0 G n q)
    exact ⟨_, _, _, Or.inr ⟨by omega, lv, hlv, rfl, rfl, rfl⟩⟩
theorem INV_put {n came q dm : Int} {F G RF SP G2 SP2 : Int → Int} (h : INV n came F G RF) (hn : n < 60) (hc : came < 200) (hq : 0 ≤ q ∧ q ≤ n) (hPT : PT G n q SP G2 dm SP2) : INV (n + 1) (came + 1) (insF F q came) G2 RF := by
  obtain ⟨h1, h2, h3, h4, h5, h6, h7, h8⟩ := h
  obtain ⟨g1, g2⟩ := PT_ok ⟨h1.1, hn⟩ h6 h7 hq hPT
  have hne : ∀ k : Int, 0 ≤ k → k < n → F k ≠ came := fun k a b => by have := h4 k a b; omega
  refine ⟨by omega, by omega, fun k a b => insF_rg h3 (by omega) hq k a (by omega), fun k a b => ?_, insF_inj h5 hne hq, g1, g2, fun k a b => ?_⟩
  · unfold insF
    split
    · have := h4 k a (by omega); omega
    · split
      · omega
      · have := h4 (k - 1) (by omega) (by omega); omega
  · rcases h8 k a b with e | ⟨j, c1, c2, c3⟩
    · exact Or.inl e
    · rcases (show j < q ∨ q ≤ j by omega) with z | z
      · exact Or.inr ⟨j, c1, by omega, by unfold insF; rw [if_pos z, c3]⟩
      · exact Or.inr ⟨j + 1, by omega, by omega, by unfold insF; rw [if_neg (by omega), if_neg (by omega), show j + 1 - 1 = j by omega, c3]⟩
theorem INV_take {n came x rp : Int} {F G RF : Int → Int} (h : INV n came F G RF) (hr : 0 ≤ rp ∧ rp < n ∧ F rp = x) : INV (n - 1) came (remF F rp) (remF G rp) (sendF RF x (fa F n (rp + 1))) := by
  obtain ⟨h1, h2, h3, h4, h5, h6, h7, h8⟩ := h
  obtain ⟨r1, r2, r3⟩ := hr
  refine ⟨by omega, h2, rem_rg (P := fun z => 0 ≤ z ∧ z < 200) h3 ⟨r1, r2⟩, rem_rg (P := fun z => z < came) h4 ⟨r1, r2⟩, rem_inj h5 ⟨r1, r2⟩, rem_rg (P := fun z => 0 ≤ z ∧ z ≤ 255) h6 ⟨r1, r2⟩, rem_SD h7 ⟨r1, r2⟩, fun k a b => ?_⟩
  have hj : ∀ j : Int, 0 ≤ j → j < n → j ≠ rp → ∃ i : Int, 0 ≤ i ∧ i < n - 1 ∧ remF F rp i = F j := by
    intro j c1 c2 c3
    rcases (show j < rp ∨ rp < j by omega) with z | z
    · exact ⟨j, c1, by omega, by unfold remF; rw [if_pos z]⟩
    · exact ⟨j - 1, by omega, by omega, by unfold remF; rw [if_neg (by omega), show j - 1 + 1 = j by omega]⟩
  unfold sendF
  by_cases e : RF k = x
  · rw [if_pos e]
    unfold fa
    by_cases z : 0 ≤ rp + 1 ∧ rp + 1 < n
    · rw [if_pos z]; exact Or.inr (hj (rp + 1) z.1 z.2 (by omega))
    · rw [if_neg z]; exact Or.inl rfl
  · rw [if_neg e]
    rcases h8 k a b with e2 | ⟨j, c1, c2, c3⟩
    · exact Or.inl e2
    · rw [← c3]
      exact Or.inr (hj j c1 c2 (fun z => e (by rw [← c3, z, r3])))
theorem carry_ex {n x rp q : Int} {F : Int → Int} (hr : 0 ≤ rp ∧ rp < n ∧ F rp = x) (hq : 0 ≤ q ∧ q ≤ n - 1) : ∀ k : Int, 0 ≤ k → k < n → ∃ j : Int, 0 ≤ j ∧ j < n ∧ insF (remF F rp) q x j = F k := by
  obtain ⟨r1, r2, r3⟩ := hr
  intro k a1 a2
  rcases (show k < rp ∨ k = rp ∨ rp < k by omega) with z | z | z
  · rcases (show k < q ∨ q ≤ k by omega) with y | y
    · exact ⟨k, a1, by omega, by unfold insF remF; rw [if_pos y, if_pos z]⟩
    · refine ⟨k + 1, by omega, by omega, ?_⟩
      unfold insF
      rw [if_neg (by omega), if_neg (by omega), show k + 1 - 1 = k by omega]
      unfold remF
      rw [if_pos z]
  · refine ⟨q, by omega, by omega, ?_⟩
    unfold insF
    rw [if_neg (by omega), if_pos rfl, z, r3]
  · rcases (show k - 1 < q ∨ q ≤ k - 1 by omega) with y | y
    · refine ⟨k - 1, by omega, by omega, ?_⟩
      unfold insF
      rw [if_pos y]
      unfold remF
      rw [if_neg (by omega), show k - 1 + 1 = k by omega]
    · refine ⟨k, by omega, by omega, ?_⟩
      unfold insF
      rw [if_neg (by omega), if_neg (by omega)]
      unfold remF
      rw [if_neg (by omega), show k - 1 + 1 = k by omega]
theorem INV_carry {n came x rp q dm : Int} {F G RF SP G2 SP2 : Int → Int} (h : INV n came F G RF) (hr : 0 ≤ rp ∧ rp < n ∧ F rp = x) (hq : 0 ≤ q ∧ q ≤ n - 1) (hPT : PT (remF G rp) (n - 1) q SP G2 dm SP2) : INV n came (insF (remF F rp) q x) G2 RF := by
  obtain ⟨h1, h2, h3, h4, h5, h6, h7, h8⟩ := h
  have hr0 := hr
  obtain ⟨r1, r2, r3⟩ := hr
  have hx : 0 ≤ x ∧ x < 200 := by rw [← r3]; exact h3 rp r1 r2
  have hxc : x < came := by rw [← r3]; exact h4 rp r1 r2
  obtain ⟨g1, g2⟩ := PT_ok (n := n - 1) ⟨by omega, by omega⟩ (rem_rg (P := fun z => 0 ≤ z ∧ z ≤ 255) h6 ⟨r1, r2⟩) (rem_SD h7 ⟨r1, r2⟩) hq hPT
  rw [show n - 1 + 1 = n by omega] at g1 g2
  have hi := insF_inj (n := n - 1) (q := q) (x := x) (rem_inj h5 ⟨r1, r2⟩) (by rw [← r3]; exact rem_ne h5 ⟨r1, r2⟩) hq
  rw [show n - 1 + 1 = n by omega] at hi
  refine ⟨h1, h2, fun k a b => insF_rg (n := n - 1) (rem_rg (P := fun z => 0 ≤ z ∧ z < 200) h3 ⟨r1, r2⟩) hx hq k a (by omega), fun k a b => ?_, hi, g1, g2, fun k a b => ?_⟩
  · have hc := rem_rg (P := fun z => z < came) h4 ⟨r1, r2⟩
    unfold insF
    split
    · exact hc k a (by omega)
    · split
      · exact hxc
      · exact hc (k - 1) (by omega) (by omega)
  · rcases h8 k a b with e | ⟨j, c1, c2, c3⟩
    · exact Or.inl e
    · obtain ⟨i, d1, d2, d3⟩ := carry_ex hr0 hq j c1 c2
      exact Or.inr ⟨i, d1, d2, by rw [d3, c3]⟩
theorem INV_seat {n came x rp u : Int} {F G RF : Int → Int} (h : INV n came F G RF) (hr : 0 ≤ rp ∧ rp < n ∧ F rp = x) : INV n came F G (uI RF u x) := by
  obtain ⟨h1, h2, h3, h4, h5, h6, h7, h8⟩ := h
  refine ⟨h1, h2, h3, h4, h5, h6, h7, fun k a b => ?_⟩
  unfold uI
  split
  · exact Or.inr ⟨rp, hr.1, hr.2.1, hr.2.2⟩
  · exact h8 k a b
theorem INV_day {n came : Int} {F G RF : Int → Int} (h : INV n came F G RF) : INV n came F G (pdF F n RF) := by
  obtain ⟨h1, h2, h3, h4, h5, h6, h7, h8⟩ := h
  refine ⟨h1, h2, h3, h4, h5, h6, h7, fun k a b => ?_⟩
  unfold pdF
  split
  · exact h8 k a b
  · unfold fa
    split
    · rename_i z; exact Or.inr ⟨_, z.1, z.2, rfl⟩
    · exact Or.inl rfl
theorem INV_0 : INV 0 0 (fun _ => 0) (fun _ => 0) (fun _ => -1) := ⟨by omega, by omega, fun k a b => by omega, fun k a b => by omega, fun i j a b => by omega, fun k a b => by omega, fun i j a b c => by omega, fun k _ _ => Or.inl rfl⟩
