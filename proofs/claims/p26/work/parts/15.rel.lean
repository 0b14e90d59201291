/-! two archives whose folders are partners: the same order, the same ways of the readers -/
def REL (n : Int) (F F2 RF RF2 RC RC2 PN : Int → Int) : Prop := (∀ j : Int, 0 ≤ j → j < n → F2 j = PN (F j)) ∧ (∀ r : Int, 0 ≤ r → r < 4 → RF2 r = if RF r = -1 then -1 else PN (RF r)) ∧ (∀ r : Int, 0 ≤ r → r < 4 → RC2 r = RC r)
theorem PL_k {n came : Int} {F G RF : Int → Int} (h : INV n came F G RF) {k : Int} (hk : 0 ≤ k ∧ k < n) : PL F n (F k) k :=
  Or.inr ⟨hk.1, hk.2, rfl, fun j h0 h1 e => by have := h.2.2.2.2.1 j k h0 (by omega) hk.1 hk.2 e; omega⟩
theorem pl_k {n came : Int} {F G RF : Int → Int} (h : INV n came F G RF) {k : Int} (hk : 0 ≤ k ∧ k < n) : pl F n (F k) = k := PL_un (pl_PL h.1.1 _) (PL_k h hk)
theorem mb_k {n : Int} {G : Int → Int} (hn : 0 ≤ n) (hs : SD G n) {k : Int} (hk : 0 ≤ k ∧ k < n) : mb G n (G k) = k :=
  FI_un (mb_FI _ hn hs) ⟨⟨hk.1, by omega⟩, fun j h0 h1 => hs j k h0 h1 hk.2, fun _ => Int.le_refl _⟩
theorem RF_ne {n came : Int} {F G RF : Int → Int} (h : INV n came F G RF) {k g : Int} (hk : 0 ≤ k ∧ k < 4) (hg : came ≤ g) : RF k ≠ g := by
  have h2 := h.2.1
  rcases h.2.2.2.2.2.2.2 k hk.1 hk.2 with e | ⟨j, b1, b2, b3⟩
  · omega
  · have := h.2.2.2.1 j b1 b2; omega
theorem INV_ext {n came : Int} {F G RF RF' : Int → Int} (h : INV n came F G RF) (hR : ∀ k : Int, 0 ≤ k → k < 4 → RF k = RF' k) : INV n came F G RF' := by
  obtain ⟨h1, h2, h3, h4, h5, h6, h7, h8⟩ := h
  exact ⟨h1, h2, h3, h4, h5, h6, h7, fun k a b => by rw [← hR k a b]; exact h8 k a b⟩
theorem REL_at {n c1 c2 : Int} {F G RF F2 G2 RF2 RC RC2 PN : Int → Int} (hI : INV n c1 F G RF) (hJ : INV n c2 F2 G2 RF2) (h : REL n F F2 RF RF2 RC RC2 PN) {p r : Int} (hp : 0 ≤ p ∧ p < n) (hr : 0 ≤ r ∧ r < 4) : RF2 r = F2 p ↔ RF r = F p := by
  have h1 := h.2.1 r hr.1 hr.2
  have a1 := hI.2.2.1 p hp.1 hp.2
  have a2 := hJ.2.2.1 p hp.1 hp.2
  rcases hI.2.2.2.2.2.2.2 r hr.1 hr.2 with e | ⟨j, b1, b2, b3⟩
  · rw [if_pos e] at h1
    constructor <;> intro z <;> omega
  · have d1 := hI.2.2.1 j b1 b2
    rw [if_neg (by omega), ← b3, ← h.1 j b1 b2] at h1
    rw [h1, ← b3]
    constructor
    · intro z; rw [hJ.2.2.2.2.1 j p b1 b2 hp.1 hp.2 z]
    · intro z; rw [hI.2.2.2.2.1 j p b1 b2 hp.1 hp.2 z]
theorem REL_m1 {n c1 c2 : Int} {F G RF F2 G2 RF2 RC RC2 PN : Int → Int} (hI : INV n c1 F G RF) (hJ : INV n c2 F2 G2 RF2) (h : REL n F F2 RF RF2 RC RC2 PN) {r : Int} (hr : 0 ≤ r ∧ r < 4) : RF2 r = -1 ↔ RF r = -1 := by
  have h1 := h.2.1 r hr.1 hr.2
  rcases hI.2.2.2.2.2.2.2 r hr.1 hr.2 with e | ⟨j, b1, b2, b3⟩
  · rw [if_pos e] at h1
    constructor <;> intro z <;> omega
  · have d1 := hI.2.2.1 j b1 b2
    have d2 := hJ.2.2.1 j b1 b2
    rw [if_neg (by omega), ← b3, ← h.1 j b1 b2] at h1
    constructor <;> intro z <;> omega
theorem REL_pl {n c1 c2 : Int} {F G RF F2 G2 RF2 RC RC2 PN : Int → Int} (hI : INV n c1 F G RF) (hJ : INV n c2 F2 G2 RF2) (h : REL n F F2 RF RF2 RC RC2 PN) {r : Int} (hr : 0 ≤ r ∧ r < 4) : pl F2 n (RF2 r) = pl F n (RF r) := by
  have h1 := h.2.1 r hr.1 hr.2
  rcases hI.2.2.2.2.2.2.2 r hr.1 hr.2 with e | ⟨j, b1, b2, b3⟩
  · rw [if_pos e] at h1
    rw [pl_m1 hI.1.1 hI.2.2.1 e, pl_m1 hJ.1.1 hJ.2.2.1 h1]
  · have d1 := hI.2.2.1 j b1 b2
    rw [if_neg (by omega), ← b3, ← h.1 j b1 b2] at h1
    rw [h1, ← b3, pl_k hI ⟨b1, b2⟩, pl_k hJ ⟨b1, b2⟩]
theorem REL_fa {n c1 c2 : Int} {F G RF F2 G2 RF2 RC RC2 PN : Int → Int} (hI : INV n c1 F G RF) (hJ : INV n c2 F2 G2 RF2) (h : REL n F F2 RF RF2 RC RC2 PN) (v : Int) : fa F2 n v = if fa F n v = -1 then -1 else PN (fa F n v) := by
  unfold fa
  by_cases z : 0 ≤ v ∧ v < n
  · have d1 := hI.2.2.1 v z.1 z.2
    rw [if_pos z, if_pos z, if_neg (by omega)]
    exact h.1 v z.1 z.2
  · rw [if_neg z, if_neg z, if_pos rfl]
theorem REL_put {n c1 c2 : Int} {F G RF F2 G2 RF2 RC RC2 PN : Int → Int} (hI : INV n c1 F G RF) (hJ : INV n c2 F2 G2 RF2) (h : REL n F F2 RF RF2 RC RC2 PN) {q : Int} (hq : 0 ≤ q ∧ q ≤ n) : REL (n + 1) (insF F q c1) (insF F2 q c2) RF RF2 RC RC2 (uI PN c1 c2) := by
  refine ⟨fun j h0 h1 => ?_, fun r h0 h1 => ?_, h.2.2⟩
  · unfold insF uI
    rcases (show j < q ∨ j = q ∨ q < j by omega) with z | z | z
    · simp only [if_pos z]
      rw [if_neg (by have := hI.2.2.2.1 j h0 (by omega); omega)]
      exact h.1 j h0 (by omega)
    · simp only [if_neg (show ¬ j < q by omega), if_pos z, if_true]
    · simp only [if_neg (show ¬ j < q by omega), if_neg (show ¬ j = q by omega)]
      rw [if_neg (by have := hI.2.2.2.1 (j - 1) (by omega) (by omega); omega)]
      exact h.1 (j - 1) (by omega) (by omega)
  · rw [h.2.1 r h0 h1]
    by_cases e : RF r = -1
    · rw [if_pos e, if_pos e]
    · rw [if_neg e, if_neg e]
      unfold uI
      rw [if_neg (RF_ne hI ⟨h0, h1⟩ (Int.le_refl _))]
theorem REL_take {n c1 c2 : Int} {F G RF F2 G2 RF2 RC RC2 PN : Int → Int} (hI : INV n c1 F G RF) (hJ : INV n c2 F2 G2 RF2) (h : REL n F F2 RF RF2 RC RC2 PN) {p : Int} (hp : 0 ≤ p ∧ p < n) : REL (n - 1) (remF F p) (remF F2 p) (sendF RF (F p) (fa F n (p + 1))) (sendF RF2 (F2 p) (fa F2 n (p + 1))) RC RC2 PN := by
  refine ⟨fun j h0 h1 => ?_, fun r h0 h1 => ?_, h.2.2⟩
  · unfold remF
    by_cases z : j < p
    · rw [if_pos z, if_pos z]; exact h.1 j h0 (by omega)
    · rw [if_neg z, if_neg z]; exact h.1 (j + 1) (by omega) (by omega)
  · have e := REL_at hI hJ h hp ⟨h0, h1⟩
    unfold sendF
    by_cases z : RF r = F p
    · rw [if_pos z, if_pos (e.mpr z)]
      exact REL_fa hI hJ h (p + 1)
    · rw [if_neg z, if_neg (fun y => z (e.mp y))]
      exact h.2.1 r h0 h1
theorem REL_carry {n : Int} {F RF F2 RF2 RC RC2 PN : Int → Int} (h : REL n F F2 RF RF2 RC RC2 PN) {p q : Int} (hp : 0 ≤ p ∧ p < n) (hq : 0 ≤ q ∧ q ≤ n - 1) : REL n (insF (remF F p) q (F p)) (insF (remF F2 p) q (F2 p)) RF RF2 RC RC2 PN := by
  have hr : ∀ i : Int, 0 ≤ i → i < n - 1 → remF F2 p i = PN (remF F p i) := by
    intro i h0 h1
    unfold remF
    by_cases z : i < p
    · rw [if_pos z, if_pos z]; exact h.1 i h0 (by omega)
    · rw [if_neg z, if_neg z]; exact h.1 (i + 1) (by omega) (by omega)
  refine ⟨fun j h0 h1 => ?_, h.2⟩
  unfold insF
  rcases (show j < q ∨ j = q ∨ q < j by omega) with z | z | z
  · rw [if_pos z, if_pos z]; exact hr j h0 (by omega)
  · rw [if_neg (by omega), if_pos z, if_neg (by omega), if_pos z]; exact h.1 p hp.1 hp.2
  · rw [if_neg (by omega), if_neg (by omega), if_neg (by omega), if_neg (by omega)]; exact hr (j - 1) (by omega) (by omega)
theorem REL_seat {n c1 c2 : Int} {F G RF F2 G2 RF2 RC RC2 PN : Int → Int} (hI : INV n c1 F G RF) (hJ : INV n c2 F2 G2 RF2) (h : REL n F F2 RF RF2 RC RC2 PN) {p u : Int} (hp : 0 ≤ p ∧ p < n) : REL n F F2 (uI RF u (F p)) (uI RF2 u (F2 p)) RC RC2 PN := by
  refine ⟨h.1, fun r h0 h1 => ?_, h.2.2⟩
  unfold uI
  by_cases z : r = u
  · rw [if_pos z, if_pos z, if_neg (by have := hI.2.2.1 p hp.1 hp.2; omega)]
    exact h.1 p hp.1 hp.2
  · rw [if_neg z, if_neg z]
    exact h.2.1 r h0 h1
theorem REL_day {n c1 c2 : Int} {F G RF F2 G2 RF2 RC RC2 PN : Int → Int} (hI : INV n c1 F G RF) (hJ : INV n c2 F2 G2 RF2) (h : REL n F F2 RF RF2 RC RC2 PN) : REL n F F2 (pdF F n RF) (pdF F2 n RF2) (pdC F n RF RC) (pdC F2 n RF2 RC2) PN := by
  refine ⟨h.1, fun r h0 h1 => ?_, fun r h0 h1 => ?_⟩
  · have e := REL_pl hI hJ h ⟨h0, h1⟩
    unfold pdF
    rw [e]
    by_cases z : pl F n (RF r) = -1
    · rw [if_pos z, if_pos z]; exact h.2.1 r h0 h1
    · rw [if_neg z, if_neg z]; exact REL_fa hI hJ h _
  · have e := REL_pl hI hJ h ⟨h0, h1⟩
    unfold pdC
    rw [e, h.2.2 r h0 h1]
theorem seat_cn {n c1 c2 : Int} {F G RF F2 G2 RF2 RC RC2 PN : Int → Int} (hI : INV n c1 F G RF) (hJ : INV n c2 F2 G2 RF2) (h : REL n F F2 RF RF2 RC RC2 PN) {p u : Int} (hp : 0 ≤ p ∧ p < n) : cn (fun k => decide (uI RF2 u (F2 p) k = F2 p)) 4 = cn (fun k => decide (uI RF u (F p) k = F p)) 4 :=
  cn_ext (fun i h0 h1 => decide_eq_decide.mpr (REL_at (INV_seat hI ⟨hp.1, hp.2, rfl⟩) (INV_seat hJ ⟨hp.1, hp.2, rfl⟩) (REL_seat hI hJ h hp) hp ⟨h0, by omega⟩))
theorem day_cn {n c1 c2 : Int} {F G RF F2 G2 RF2 RC RC2 PN : Int → Int} (hI : INV n c1 F G RF) (hJ : INV n c2 F2 G2 RF2) (h : REL n F F2 RF RF2 RC RC2 PN) : cn (fun j => decide (pdF F2 n RF2 j ≠ -1)) 4 = cn (fun j => decide (pdF F n RF j ≠ -1)) 4 :=
  cn_ext (fun i h0 h1 => decide_eq_decide.mpr (not_congr (REL_m1 (INV_day hI) (INV_day hJ) (REL_day hI hJ h) ⟨h0, by omega⟩)))
theorem rem_ins (F : Int → Int) (q x : Int) : remF (insF F q x) q = F := by
  funext k
  unfold remF insF
  by_cases z : k < q
  · rw [if_pos z, if_pos z]
  · rw [if_neg z, if_neg (by omega), if_neg (by omega), show k + 1 - 1 = k by omega]
theorem rem_ins1 (F : Int → Int) (q a b : Int) : remF (insF (insF F q a) q b) (q + 1) = insF F q b := by
  funext k
  unfold remF insF
  rcases (show k < q ∨ k = q ∨ q < k by omega) with z | z | z
  · rw [if_pos (by omega), if_pos z, if_pos z, if_pos z]
  · rw [if_pos (by omega), if_neg (by omega), if_pos z, if_neg (by omega), if_pos z]
  · rw [if_neg (by omega), if_neg (by omega), if_neg (by omega), if_neg (by omega), if_neg (by omega), if_neg (by omega), if_neg (by omega), show k + 1 - 1 = k by omega]
theorem ins_at (F : Int → Int) (q x : Int) : insF F q x q = x := by
  unfold insF
  rw [if_neg (by omega), if_pos rfl]
theorem ins_at1 (F : Int → Int) (q a b : Int) : insF (insF F q a) q b (q + 1) = a := by
  unfold insF
  rw [if_neg (by omega), if_neg (by omega), if_neg (by omega), if_pos (by omega)]
theorem ins_bef (F : Int → Int) {q x k : Int} (h : k < q) : insF F q x k = F k := by
  unfold insF
  rw [if_pos h]
theorem send_id {RF : Int → Int} {g nx : Int} (h : ∀ k : Int, 0 ≤ k → k < 4 → RF k ≠ g) : ∀ k : Int, 0 ≤ k → k < 4 → sendF RF g nx k = RF k := fun k h0 h1 => by
  unfold sendF
  rw [if_neg (h k h0 h1)]
