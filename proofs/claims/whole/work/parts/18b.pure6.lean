/-! a folder that is lifted out and put in again -/
theorem rem_in {F : Int → Int} {n rp r x : Int} (hr : 0 ≤ rp ∧ rp < n) (hq : 0 ≤ r ∧ r < n ∧ F r = x) (hne : r ≠ rp) : ∃ j : Int, 0 ≤ j ∧ j < n - 1 ∧ remF F rp j = x := by
  rcases (show r < rp ∨ rp < r by omega) with z | z
  · exact ⟨r, hq.1, by omega, by unfold remF; rw [if_pos z, hq.2.2]⟩
  · exact ⟨r - 1, by omega, by omega, by unfold remF; rw [if_neg (by omega), show r - 1 + 1 = r by omega, hq.2.2]⟩
theorem ins_PL {F : Int → Int} {n q x N : Int} (hne : ∀ k : Int, 0 ≤ k → k < n → F k ≠ x) (hq : 0 ≤ q ∧ q ≤ n) (hN : q < N) : PL (insF F q x) N x q := by
  refine Or.inr ⟨hq.1, hN, ?_, fun k h0 h1 => ?_⟩
  · unfold insF
    rw [if_neg (by omega), if_pos rfl]
  · unfold insF
    rw [if_pos h1]
    exact hne k h0 (by omega)
