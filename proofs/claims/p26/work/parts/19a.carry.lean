/-! a folder that is carried: where it comes to stand -/
def cq (p b : Int) : Int := if b < p then b else b - 1
theorem cq_at {F : Int → Int} {p b : Int} (hne : p ≠ b) : remF F p (cq p b) = F b := by
  unfold remF cq
  by_cases z : b < p
  · rw [if_pos z, if_pos z]
  · rw [if_neg z, if_neg (by omega), show b - 1 + 1 = b by omega]
theorem cq_rg {n p b : Int} (hp : 0 ≤ p ∧ p < n) (hb : 0 ≤ b ∧ b < n) (hne : p ≠ b) : 0 ≤ cq p b ∧ cq p b < n - 1 := by
  unfold cq
  by_cases z : b < p
  · rw [if_pos z]; omega
  · rw [if_neg z]; omega
theorem carry_ok {n came : Int} {F G RF : Int → Int} (h : INV n came F G RF) {p b : Int} (hp : 0 ≤ p ∧ p < n) (hb : 0 ≤ b ∧ b < n) (hne : p ≠ b) : F p ≠ F b ∧ PL (remF F p) (n - 1) (F b) (cq p b) ∧ (∀ k : Int, 0 ≤ k → k < n - 1 → 0 ≤ remF G p k ∧ remF G p k ≤ 255) ∧ SD (remF G p) (n - 1) ∧ (∀ k : Int, 0 ≤ k → k < n - 1 → 0 ≤ remF F p k ∧ remF F p k < 200) ∧ (∀ k : Int, 0 ≤ k → k < n → 0 ≤ insF (remF F p) (cq p b + 1) (F p) k ∧ insF (remF F p) (cq p b + 1) (F p) k < 200) ∧ PL (insF (remF F p) (cq p b + 1) (F p)) n (F p) (cq p b + 1) := by
  obtain ⟨h1, h2, h3, h4, h5, h6, h7, h8⟩ := h
  have hq := cq_rg hp hb hne
  have hF1 := rem_rg (P := fun z => 0 ≤ z ∧ z < 200) h3 hp
  refine ⟨fun e => hne (h5 p b hp.1 hp.2 hb.1 hb.2 e), Or.inr ⟨hq.1, hq.2, cq_at hne, fun k a1 a2 e => ?_⟩, rem_rg (P := fun z => 0 ≤ z ∧ z ≤ 255) h6 hp, rem_SD h7 hp, hF1, fun k a1 a2 => insF_rg (n := n - 1) hF1 (h3 p hp.1 hp.2) (by omega) k a1 (by omega), ins_PL (n := n - 1) (fun k a1 a2 => rem_ne h5 hp k a1 a2) (by omega) (by omega)⟩
  have := rem_inj h5 hp k (cq p b) a1 (by omega) hq.1 hq.2 (e.trans (cq_at hne).symm)
  omega
