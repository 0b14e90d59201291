/-! which folders the reference knows, behind a change -/
theorem MI_ins {n came : Int} {F ZN : Int → Int} {q : Int} (h : MI n came F ZN) (hF : ∀ k : Int, 0 ≤ k → k < n → 0 ≤ F k ∧ F k < 200) (hc : came < 200) (hq : 0 ≤ q ∧ q ≤ n) : MI (n + 1) (came + 1) (insF F q came) (uI ZN came 1) := by
  obtain ⟨h1, h2, h3, h4⟩ := h
  refine ⟨by omega, fun x h5 h6 => ?_, fun x h5 h6 => ?_, fun k h5 h6 => ?_⟩
  · unfold uI
    split
    · omega
    · exact h2 x h5 (by omega)
  · unfold uI
    by_cases e : x = came
    · rw [if_pos e]
      refine ⟨fun _ => ⟨q, by omega, by omega, ?_⟩, fun _ => rfl⟩
      unfold insF
      rw [if_neg (by omega), if_pos rfl, e]
    · rw [if_neg e, h3 x h5 (by omega)]
      constructor
      · rintro ⟨k, a1, a2, a3⟩
        rcases (show k < q ∨ q ≤ k by omega) with z | z
        · exact ⟨k, a1, by omega, by unfold insF; rw [if_pos z, a3]⟩
        · exact ⟨k + 1, by omega, by omega, by unfold insF; rw [if_neg (by omega), if_neg (by omega), show k + 1 - 1 = k by omega, a3]⟩
      · rintro ⟨k, a1, a2, a3⟩
        unfold insF at a3
        rcases (show k < q ∨ k = q ∨ q < k by omega) with z | z | z
        · rw [if_pos z] at a3; exact ⟨k, a1, by omega, a3⟩
        · rw [if_neg (by omega), if_pos z] at a3; omega
        · rw [if_neg (by omega), if_neg (by omega)] at a3; exact ⟨k - 1, by omega, by omega, a3⟩
  · unfold insF
    split
    · have := h4 k h5 (by omega); omega
    · split
      · omega
      · have := h4 (k - 1) (by omega) (by omega); omega
theorem MI_rem {n came : Int} {F ZN : Int → Int} {x rp : Int} (h : MI n came F ZN) (hF : ∀ k : Int, 0 ≤ k → k < n → 0 ≤ F k ∧ F k < 200) (hFi : ∀ i j : Int, 0 ≤ i → i < n → 0 ≤ j → j < n → F i = F j → i = j) (hr : 0 ≤ rp ∧ rp < n ∧ F rp = x) : MI (n - 1) came (remF F rp) (uI ZN x 0) := by
  obtain ⟨h1, h2, h3, h4⟩ := h
  obtain ⟨r1, r2, r3⟩ := hr
  refine ⟨h1, fun y h5 h6 => ?_, fun y h5 h6 => ?_, fun k h5 h6 => ?_⟩
  · unfold uI
    split
    · omega
    · exact h2 y h5 h6
  · unfold uI
    by_cases e : y = x
    · rw [if_pos e]
      constructor
      · intro z; omega
      · rintro ⟨k, a1, a2, a3⟩
        unfold remF at a3
        rcases (show k < rp ∨ rp ≤ k by omega) with z | z
        · rw [if_pos z] at a3; have := hFi k rp a1 (by omega) r1 r2 (by omega); omega
        · rw [if_neg (by omega)] at a3; have := hFi (k + 1) rp (by omega) (by omega) r1 r2 (by omega); omega
    · rw [if_neg e, h3 y h5 h6]
      constructor
      · rintro ⟨k, a1, a2, a3⟩
        have hk : k ≠ rp := fun z => e (by rw [← a3, z, r3])
        rcases (show k < rp ∨ rp < k by omega) with z | z
        · exact ⟨k, a1, by omega, by unfold remF; rw [if_pos z, a3]⟩
        · exact ⟨k - 1, by omega, by omega, by unfold remF; rw [if_neg (by omega), show k - 1 + 1 = k by omega, a3]⟩
      · rintro ⟨k, a1, a2, a3⟩
        unfold remF at a3
        rcases (show k < rp ∨ rp ≤ k by omega) with z | z
        · rw [if_pos z] at a3; exact ⟨k, a1, by omega, a3⟩
        · rw [if_neg (by omega)] at a3; exact ⟨k + 1, by omega, by omega, a3⟩
  · unfold remF
    split
    · exact h4 k h5 (by omega)
    · exact h4 (k + 1) (by omega) (by omega)
/-- a folder that is lifted out and put in again: the same folders -/
theorem MI_carry {n came : Int} {F ZN : Int → Int} {x rp q : Int} (h : MI n came F ZN) (hr : 0 ≤ rp ∧ rp < n ∧ F rp = x) (hq : 0 ≤ q ∧ q ≤ n - 1) : MI (n - 1 + 1) came (insF (remF F rp) q x) ZN := by
  obtain ⟨h1, h2, h3, h4⟩ := h
  obtain ⟨r1, r2, r3⟩ := hr
  have hex : ∀ k : Int, 0 ≤ k → k < n → ∃ j : Int, 0 ≤ j ∧ j < n - 1 + 1 ∧ insF (remF F rp) q x j = F k := by
    intro k a1 a2
    rcases (show k < rp ∨ k = rp ∨ rp < k by omega) with z | z | z
    · rcases (show k < q ∨ q ≤ k by omega) with y | y
      · exact ⟨k, a1, by omega, by unfold insF remF; rw [if_pos y, if_pos z]⟩
      · refine ⟨k + 1, by omega, by omega, ?_⟩
        unfold insF
        rw [if_neg (by omega), if_neg (by omega), show k + 1 - 1 = k by omega]
        unfold remF
        rw [if_pos z]
    · refine ⟨q, by omega, by omega, ?_⟩
      unfold insF
      rw [if_neg (by omega), if_pos rfl, z, r3]
    · rcases (show k - 1 < q ∨ q ≤ k - 1 by omega) with y | y
      · refine ⟨k - 1, by omega, by omega, ?_⟩
        unfold insF
        rw [if_pos y]
        unfold remF
        rw [if_neg (by omega), show k - 1 + 1 = k by omega]
      · refine ⟨k, by omega, by omega, ?_⟩
        unfold insF
        rw [if_neg (by omega), if_neg (by omega)]
        unfold remF
        rw [if_neg (by omega), show k - 1 + 1 = k by omega]
  have hin : ∀ j : Int, 0 ≤ j → j < n - 1 + 1 → ∃ k : Int, 0 ≤ k ∧ k < n ∧ F k = insF (remF F rp) q x j := by
    intro j a1 a2
    unfold insF
    split
    · unfold remF
      split
      · exact ⟨j, a1, by omega, rfl⟩
      · exact ⟨j + 1, by omega, by omega, rfl⟩
    · split
      · exact ⟨rp, r1, r2, r3⟩
      · unfold remF
        split
        · exact ⟨j - 1, by omega, by omega, rfl⟩
        · exact ⟨j - 1 + 1, by omega, by omega, rfl⟩
  refine ⟨h1, h2, fun y h5 h6 => ?_, fun k h5 h6 => ?_⟩
  · rw [h3 y h5 h6]
    constructor
    · rintro ⟨k, a1, a2, a3⟩
      obtain ⟨j, b1, b2, b3⟩ := hex k a1 a2
      exact ⟨j, b1, b2, by rw [b3, a3]⟩
    · rintro ⟨k, a1, a2, a3⟩
      obtain ⟨j, b1, b2, b3⟩ := hin k a1 a2
      exact ⟨j, b1, b2, by rw [b3, a3]⟩
  · obtain ⟨j, b1, b2, b3⟩ := hin k h5 h6
    rw [← b3]
    exact h4 j b1 b2
theorem PL_p {F : Int → Int} {n x rp : Int} (h : PL F n x rp) (h0 : 0 ≤ rp) : 0 ≤ rp ∧ rp < n ∧ F rp = x := by
  rcases h with ⟨e, -⟩ | ⟨a, b, c, -⟩
  · omega
  · exact ⟨a, b, c⟩
theorem rem_rg {F : Int → Int} {n rp : Int} {P : Int → Prop} (hF : ∀ k : Int, 0 ≤ k → k < n → P (F k)) (hr : 0 ≤ rp ∧ rp < n) : ∀ k : Int, 0 ≤ k → k < n - 1 → P (remF F rp k) := by
  intro k h0 h1
  unfold remF
  split
  · exact hF k h0 (by omega)
  · exact hF (k + 1) (by omega) (by omega)
theorem rem_gm {F G Gp : Int → Int} {n rp : Int} (hGM : ∀ k : Int, 0 ≤ k → k < n → G (F k) = Gp k) (hr : 0 ≤ rp ∧ rp < n) : ∀ k : Int, 0 ≤ k → k < n - 1 → G (remF F rp k) = remF Gp rp k := by
  intro k h0 h1
  unfold remF
  split
  · exact hGM k h0 (by omega)
  · exact hGM (k + 1) (by omega) (by omega)
theorem rem_inj {F : Int → Int} {n rp : Int} (hFi : ∀ i j : Int, 0 ≤ i → i < n → 0 ≤ j → j < n → F i = F j → i = j) (hr : 0 ≤ rp ∧ rp < n) : ∀ i j : Int, 0 ≤ i → i < n - 1 → 0 ≤ j → j < n - 1 → remF F rp i = remF F rp j → i = j := by
  intro i j h0 h1 h2 h3 h
  unfold remF at h
  split at h <;> split at h
  · exact hFi i j h0 (by omega) h2 (by omega) h
  · have := hFi i (j + 1) h0 (by omega) (by omega) (by omega) h; omega
  · have := hFi (i + 1) j (by omega) (by omega) h2 (by omega) h; omega
  · have := hFi (i + 1) (j + 1) (by omega) (by omega) (by omega) (by omega) h; omega
theorem rem_ne {F : Int → Int} {n rp : Int} (hFi : ∀ i j : Int, 0 ≤ i → i < n → 0 ≤ j → j < n → F i = F j → i = j) (hr : 0 ≤ rp ∧ rp < n) : ∀ k : Int, 0 ≤ k → k < n - 1 → remF F rp k ≠ F rp := by
  intro k h0 h1 h
  unfold remF at h
  split at h
  · have := hFi k rp h0 (by omega) hr.1 hr.2 h; omega
  · have := hFi (k + 1) rp (by omega) (by omega) hr.1 hr.2 h; omega
theorem rem_SD {G : Int → Int} {n rp : Int} (hs : SD G n) (hr : 0 ≤ rp ∧ rp < n) : SD (remF G rp) (n - 1) := by
  intro i j h0 h1 h2
  unfold remF
  split <;> split
  · exact hs i j h0 h1 (by omega)
  · exact hs i (j + 1) h0 (by omega) (by omega)
  · omega
  · exact hs (i + 1) (j + 1) (by omega) (by omega) (by omega)
theorem mb_0 {G : Int → Int} {n : Int} (hG : ∀ k : Int, 0 ≤ k → k < n → 0 ≤ G k ∧ G k ≤ 255) : mb G n 0 = 0 := by
  unfold mb
  rw [cn_ext (P' := fun _ => false) (k := n.toNat) (fun i h0 h1 => decide_eq_false (by have := hG i h0 (by omega); omega))]
  generalize n.toNat = m
  induction m with
  | zero => rfl
  | succ m ih => simp only [cn]; rw [ih]; simp
theorem pl_m1 {F : Int → Int} {n x : Int} (hn : 0 ≤ n) (hF : ∀ k : Int, 0 ≤ k → k < n → 0 ≤ F k ∧ F k < 200) (hx : x = -1) : pl F n x = -1 := by
  rcases pl_PL (F := F) hn x with ⟨e, -⟩ | ⟨a1, a2, a3, -⟩
  · exact e
  · have := hF _ a1 a2; omega
theorem SD_inj {G : Int → Int} {n i j : Int} (hs : SD G n) (hi : 0 ≤ i ∧ i < n) (hj : 0 ≤ j ∧ j < n) (h : G i = G j) : i = j := by
  rcases (show i < j ∨ j < i ∨ i = j by omega) with z | z | z
  · have := hs i j hi.1 z hj.2; omega
  · have := hs j i hj.1 z hi.2; omega
  · exact z
theorem mvn_0 (G : Int → Int) (p lo w beg t : Int) : mvn G p lo w beg t 0 = 0 := rfl
