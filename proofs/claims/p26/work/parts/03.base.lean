/-! numbers: an Int32 by the Int that it stands for -/
def iI (n : Int) : Int32 := Int32.ofInt n
theorem iI_add (a b : Int) : iI a + iI b = iI (a + b) := (Int32.ofInt_add a b).symm
theorem iI_sub (a b : Int) : iI a - iI b = iI (a - b) := (Int32.ofInt_sub a b).symm
theorem iI_mul (a b : Int) : iI a * iI b = iI (a * b) := (Int32.ofInt_mul a b).symm
theorem iI_T {a : Int} (h : -2147483648 ≤ a ∧ a ≤ 2147483647) : (iI a).toInt = a := Int32.toInt_ofInt_of_le (by omega) (by omega)
theorem iI_N {a : Int} (h : 0 ≤ a ∧ a ≤ 2147483647) : (iI a).toNatClampNeg = a.toNat := Int32.toNatClampNeg_ofInt_of_le (by omega) (by omega)
theorem iI_of (x : Int32) : ∃ a : Int, (-2147483648 ≤ a ∧ a ≤ 2147483647) ∧ x = iI a :=
  ⟨x.toInt, ⟨by have := Int32.le_toInt x; omega, by have := Int32.toInt_lt x; omega⟩, (Int32.ofInt_toInt x).symm⟩
theorem iI_lt {a b : Int} (ha : -2147483648 ≤ a ∧ a ≤ 2147483647) (hb : -2147483648 ≤ b ∧ b ≤ 2147483647) : iI a < iI b ↔ a < b := by rw [Int32.lt_iff_toInt_lt, iI_T ha, iI_T hb]
theorem iI_le {a b : Int} (ha : -2147483648 ≤ a ∧ a ≤ 2147483647) (hb : -2147483648 ≤ b ∧ b ≤ 2147483647) : iI a ≤ iI b ↔ a ≤ b := by rw [Int32.le_iff_toInt_le, iI_T ha, iI_T hb]
theorem iI_eq {a b : Int} (ha : -2147483648 ≤ a ∧ a ≤ 2147483647) (hb : -2147483648 ≤ b ∧ b ≤ 2147483647) : iI a = iI b ↔ a = b := by rw [← Int32.toInt_inj, iI_T ha, iI_T hb]
theorem iI_0 : iI 0 = 0 := by decide +kernel
theorem iI_nI (n : Nat) : iI (n : Int) = nI n := Int32.ofInt_eq_ofNat
theorem iI_in {a : Int} {n : Nat} (h : 0 ≤ a ∧ a < n) (hn : n ≤ 2147483647) : vp_in (iI a) n := vp_in_iff.mpr (by rw [iI_T (by omega)]; exact h)
theorem iI_div {a b : Int} (ha : 0 ≤ a ∧ a ≤ 2147483647) (hb : 0 < b ∧ b ≤ 2147483647) : iI a / iI b = iI (a / b) := by
  have h1 : Int32.minValue.toInt = -2147483648 := by decide +kernel
  have h2 : Int32.maxValue.toInt = 2147483647 := by decide +kernel
  have h := Int32.ofInt_tdiv (a := a) (b := b) (by omega) (by omega) (by omega) (by omega)
  rw [Int.tdiv_eq_ediv_of_nonneg ha.1] at h
  exact h.symm
theorem iI_s9 : ∀ n, n < 32 → ((nI n &&& 31).toBitVec.smod 32).toNat = n := by decide +kernel
theorem iI_shl {a k : Int} (ha : 0 ≤ a) (hk : 0 ≤ k ∧ k ≤ 30) (h : a * 2 ^ k.toNat ≤ 2147483647) : iI a <<< (iI k &&& 31) = iI (a * 2 ^ k.toNat) := by
  obtain ⟨n, rfl⟩ := Int.eq_ofNat_of_zero_le ha
  obtain ⟨j, rfl⟩ := Int.eq_ofNat_of_zero_le hk.1
  have e : ((n : Int) * 2 ^ (j : Int).toNat) = ((n * 2 ^ j : Nat) : Int) := by simp
  rw [e] at h ⊢
  rw [iI_nI, iI_nI, iI_nI]
  exact pk_shlN (n := n) (nI j &&& 31) j (iI_s9 j (by omega)) (by omega)
theorem iI_shr {a k : Int} (ha : -2147483648 ≤ a ∧ a ≤ 2147483647) (hk : 0 ≤ k ∧ k ≤ 31) : iI a >>> (iI k &&& 31) = iI (a / 2 ^ k.toNat) := by
  obtain ⟨j, rfl⟩ := Int.eq_ofNat_of_zero_le hk.1
  have hd : (0 : Int) < 2 ^ j := Int.pow_pos (by decide)
  have e : (2 : Int) ^ (j : Int).toNat = 2 ^ j := by simp
  rw [e, iI_nI]
  have h1 : -2147483648 ≤ a / 2 ^ j := Int.le_ediv_of_mul_le hd (by generalize (2 : Int) ^ j = d at hd; omega)
  have h2 : a / 2 ^ j < 2147483648 := Int.ediv_lt_of_lt_mul hd (by generalize (2 : Int) ^ j = d at hd; omega)
  refine Int32.toInt_inj.mp ?_
  rw [pk_shr (iI a) (nI j &&& 31) j (iI_s9 j (by omega)), iI_T ha, iI_T ⟨h1, by omega⟩, Int.shiftRight_eq_div_pow]
  simp
/-- an int array holds the numbers F at its first n places -/
def AR (f : Nat → Int32) (n : Int) (F : Int → Int) : Prop := ∀ k : Int, 0 ≤ k → k < n → f k.toNat = iI (F k)
/-- F with v at k -/
def uI (F : Int → Int) (k v : Int) : Int → Int := fun j => if j = k then v else F j
theorem uI_s {F : Int → Int} {k v : Int} : uI F k v k = v := by simp [uI]
theorem uI_n {F : Int → Int} {k v j : Int} (h : j ≠ k) : uI F k v j = F j := by simp [uI, h]
theorem AR_up {f : Nat → Int32} {n : Int} {F : Int → Int} (h : AR f n F) {k v : Int} (hk : 0 ≤ k) : AR (upd f k.toNat (iI v)) n (uI F k v) := by
  intro j h0 h1
  by_cases e : j = k
  · subst e; simp [upd, uI]
  · have : j.toNat ≠ k.toNat := by omega
    simp [upd, uI, e, this, h j h0 h1]
theorem AR_to {f : Nat → Int32} {n m : Int} {F F' : Int → Int} (h : AR f n F) (hm : m ≤ n) (hF : ∀ k, 0 ≤ k → k < m → F k = F' k) : AR f m F' := fun k h0 h1 => by rw [h k h0 (by omega), hF k h0 h1]
theorem AR_ex (f : Nat → Int32) : ∃ F : Int → Int, (∀ k, -2147483648 ≤ F k ∧ F k ≤ 2147483647) ∧ ∀ n, AR f n F := by
  refine ⟨fun k => (f k.toNat).toInt, fun k => ⟨by have := Int32.le_toInt (f k.toNat); dsimp only; omega, by have := Int32.toInt_lt (f k.toNat); dsimp only; omega⟩, fun n k _ _ => (Int32.ofInt_toInt _).symm⟩
/-- what stood at the first n places, and something at all others -/
theorem AR_all {f : Nat → Int32} {n : Int} {F : Int → Int} (h : AR f n F) : ∃ F' : Int → Int, (∀ m, AR f m F') ∧ (∀ k, 0 ≤ k → k < n → F' k = F k) := by
  obtain ⟨F9, hr, h9⟩ := AR_ex f
  refine ⟨fun k => if 0 ≤ k ∧ k < n then F k else F9 k, fun m k h0 h1 => ?_, fun k h0 h1 => by simp [h0, h1]⟩
  by_cases e : k < n
  · simp only [h0, e, and_self, if_true]; exact h k h0 e
  · simp only [e, and_false, if_false]; exact h9 m k h0 h1

section PVR
variable {p : Program} {l : Launch} {e : Env} {R : Room} {s : State} {m : MethodId} {args : Array Value} {below : List Frame} {meth : Method} {c : Code} {H : Heap} {locs : List Loc} {cells slots : Nat} {Q : State → Prop}
variable {cc : ByteArray} {pc : Nat} {ls : Array Slot} {rest : List Value}
theorem pv_iconst (hx : p.tables.exec = Jvm.exec) (hb : c.code = cc) {n : Int} (d : decode cc pc = .ok (.iconst n, 1)) (k : W p l e R s m args below meth c H locs cells slots Q (F0 m (pc + 1) ls (.int (iI n) :: rest))) : W p l e R s m args below meth c H locs cells slots Q (F0 m pc ls rest) := lv_iconst (v := iI n) hx hb d rfl k
theorem pv_bipush (hx : p.tables.exec = Jvm.exec) (hb : c.code = cc) {n : Int} (d : decode cc pc = .ok (.bipush n, 2)) (hv : (Int8.ofInt n).toInt32 = iI n) (k : W p l e R s m args below meth c H locs cells slots Q (F0 m (pc + 2) ls (.int (iI n) :: rest))) : W p l e R s m args below meth c H locs cells slots Q (F0 m pc ls rest) := lv_bipush (v := iI n) hx hb d hv k
theorem pv_sipush (hx : p.tables.exec = Jvm.exec) (hb : c.code = cc) {n : Int} (d : decode cc pc = .ok (.sipush n, 3)) (hv : (Int16.ofInt n).toInt32 = iI n) (k : W p l e R s m args below meth c H locs cells slots Q (F0 m (pc + 3) ls (.int (iI n) :: rest))) : W p l e R s m args below meth c H locs cells slots Q (F0 m pc ls rest) := lv_sipush (v := iI n) hx hb d hv k
theorem pv_iadd (hx : p.tables.exec = Jvm.exec) (hb : c.code = cc) {a b : Int} (d : decode cc pc = .ok (.iadd, 1)) (k : W p l e R s m args below meth c H locs cells slots Q (F0 m (pc + 1) ls (.int (iI (a + b)) :: rest))) : W p l e R s m args below meth c H locs cells slots Q (F0 m pc ls (.int (iI b) :: .int (iI a) :: rest)) := by
  refine lv_iadd hx hb d ?_
  rw [iI_add]
  exact k
theorem pv_isub (hx : p.tables.exec = Jvm.exec) (hb : c.code = cc) {a b : Int} (d : decode cc pc = .ok (.isub, 1)) (k : W p l e R s m args below meth c H locs cells slots Q (F0 m (pc + 1) ls (.int (iI (a - b)) :: rest))) : W p l e R s m args below meth c H locs cells slots Q (F0 m pc ls (.int (iI b) :: .int (iI a) :: rest)) := by
  refine lv_isub hx hb d ?_
  rw [iI_sub]
  exact k
theorem pv_imul (hx : p.tables.exec = Jvm.exec) (hb : c.code = cc) {a b : Int} (d : decode cc pc = .ok (.imul, 1)) (k : W p l e R s m args below meth c H locs cells slots Q (F0 m (pc + 1) ls (.int (iI (a * b)) :: rest))) : W p l e R s m args below meth c H locs cells slots Q (F0 m pc ls (.int (iI b) :: .int (iI a) :: rest)) := by
  refine lv_imul hx hb d ?_
  rw [iI_mul]
  exact k
theorem pv_idiv (hx : p.tables.exec = Jvm.exec) (hb : c.code = cc) {a b : Int} (d : decode cc pc = .ok (.idiv, 1)) (ha : 0 ≤ a ∧ a ≤ 2147483647) (hb9 : 0 < b ∧ b ≤ 2147483647) (k : W p l e R s m args below meth c H locs cells slots Q (F0 m (pc + 1) ls (.int (iI (a / b)) :: rest))) : W p l e R s m args below meth c H locs cells slots Q (F0 m pc ls (.int (iI b) :: .int (iI a) :: rest)) := by
  refine lv_idiv hx hb d (fun h => ?_) ?_
  · have := (iI_eq (a := b) (b := 0) (by omega) (by omega)).mp (h.trans iI_0.symm)
    omega
  · rw [iI_div ha hb9]
    exact k
theorem pv_ishl (hx : p.tables.exec = Jvm.exec) (hb : c.code = cc) {a b : Int} (d : decode cc pc = .ok (.ishl, 1)) (ha : 0 ≤ a) (hk : 0 ≤ b ∧ b ≤ 30) (h : a * 2 ^ b.toNat ≤ 2147483647) (k : W p l e R s m args below meth c H locs cells slots Q (F0 m (pc + 1) ls (.int (iI (a * 2 ^ b.toNat)) :: rest))) : W p l e R s m args below meth c H locs cells slots Q (F0 m pc ls (.int (iI b) :: .int (iI a) :: rest)) := by
  refine lv_ishl hx hb d ?_
  rw [iI_shl ha hk h]
  exact k
theorem pv_ishr (hx : p.tables.exec = Jvm.exec) (hb : c.code = cc) {a b : Int} (d : decode cc pc = .ok (.ishr, 1)) (ha : (-2147483648 ≤ a ∧ a ≤ 2147483647)) (hk : 0 ≤ b ∧ b ≤ 31) (k : W p l e R s m args below meth c H locs cells slots Q (F0 m (pc + 1) ls (.int (iI (a / 2 ^ b.toNat)) :: rest))) : W p l e R s m args below meth c H locs cells slots Q (F0 m pc ls (.int (iI b) :: .int (iI a) :: rest)) := by
  refine lv_ishr hx hb d ?_
  rw [iI_shr ha hk]
  exact k
theorem pv_icmp_eq (hx : p.tables.exec = Jvm.exec) (hb : c.code = cc) {a b : Int} {off : Int} {tgt : Nat} (d : decode cc pc = .ok (.if_icmp .eq off, 3)) (ht : (pc : Int) + off = (tgt : Int)) (hr : (-2147483648 ≤ a ∧ a ≤ 2147483647) ∧ (-2147483648 ≤ b ∧ b ≤ 2147483647)) (kt : a = b → W p l e R s m args below meth c H locs cells slots Q (F0 m tgt ls rest)) (kf : a ≠ b → W p l e R s m args below meth c H locs cells slots Q (F0 m (pc + 3) ls rest)) : W p l e R s m args below meth c H locs cells slots Q (F0 m pc ls (.int (iI b) :: .int (iI a) :: rest)) := by
  refine lv_icmp_eq hx hb d ht (fun h => kt ?_) (fun h => kf ?_)
  all_goals
    first
      | rw [iI_eq hr.1 hr.2] at h
      | rw [iI_lt hr.1 hr.2] at h
      | rw [iI_lt hr.2 hr.1] at h
      | rw [iI_le hr.1 hr.2] at h
      | rw [iI_le hr.2 hr.1] at h
    omega
theorem pv_if_eq (hx : p.tables.exec = Jvm.exec) (hb : c.code = cc) {a : Int} {off : Int} {tgt : Nat} (d : decode cc pc = .ok (.ifCond .eq off, 3)) (ht : (pc : Int) + off = (tgt : Int)) (hr : (-2147483648 ≤ a ∧ a ≤ 2147483647)) (kt : a = 0 → W p l e R s m args below meth c H locs cells slots Q (F0 m tgt ls rest)) (kf : a ≠ 0 → W p l e R s m args below meth c H locs cells slots Q (F0 m (pc + 3) ls rest)) : W p l e R s m args below meth c H locs cells slots Q (F0 m pc ls (.int (iI a) :: rest)) := by
  have h0 : (-2147483648 : Int) ≤ 0 ∧ (0 : Int) ≤ 2147483647 := by omega
  refine lv_if_eq hx hb d ht (fun h => kt ?_) (fun h => kf ?_)
  all_goals
    rw [← iI_0] at h
    first
      | rw [iI_eq hr h0] at h
      | rw [iI_lt hr h0] at h
      | rw [iI_lt h0 hr] at h
      | rw [iI_le hr h0] at h
      | rw [iI_le h0 hr] at h
    omega
theorem pv_icmp_ne (hx : p.tables.exec = Jvm.exec) (hb : c.code = cc) {a b : Int} {off : Int} {tgt : Nat} (d : decode cc pc = .ok (.if_icmp .ne off, 3)) (ht : (pc : Int) + off = (tgt : Int)) (hr : (-2147483648 ≤ a ∧ a ≤ 2147483647) ∧ (-2147483648 ≤ b ∧ b ≤ 2147483647)) (kt : a ≠ b → W p l e R s m args below meth c H locs cells slots Q (F0 m tgt ls rest)) (kf : a = b → W p l e R s m args below meth c H locs cells slots Q (F0 m (pc + 3) ls rest)) : W p l e R s m args below meth c H locs cells slots Q (F0 m pc ls (.int (iI b) :: .int (iI a) :: rest)) := by
  refine lv_icmp_ne hx hb d ht (fun h => kt ?_) (fun h => kf ?_)
  all_goals
    first
      | rw [iI_eq hr.1 hr.2] at h
      | rw [iI_lt hr.1 hr.2] at h
      | rw [iI_lt hr.2 hr.1] at h
      | rw [iI_le hr.1 hr.2] at h
      | rw [iI_le hr.2 hr.1] at h
    omega
theorem pv_if_ne (hx : p.tables.exec = Jvm.exec) (hb : c.code = cc) {a : Int} {off : Int} {tgt : Nat} (d : decode cc pc = .ok (.ifCond .ne off, 3)) (ht : (pc : Int) + off = (tgt : Int)) (hr : (-2147483648 ≤ a ∧ a ≤ 2147483647)) (kt : a ≠ 0 → W p l e R s m args below meth c H locs cells slots Q (F0 m tgt ls rest)) (kf : a = 0 → W p l e R s m args below meth c H locs cells slots Q (F0 m (pc + 3) ls rest)) : W p l e R s m args below meth c H locs cells slots Q (F0 m pc ls (.int (iI a) :: rest)) := by
  have h0 : (-2147483648 : Int) ≤ 0 ∧ (0 : Int) ≤ 2147483647 := by omega
  refine lv_if_ne hx hb d ht (fun h => kt ?_) (fun h => kf ?_)
  all_goals
    rw [← iI_0] at h
    first
      | rw [iI_eq hr h0] at h
      | rw [iI_lt hr h0] at h
      | rw [iI_lt h0 hr] at h
      | rw [iI_le hr h0] at h
      | rw [iI_le h0 hr] at h
    omega
theorem pv_icmp_lt (hx : p.tables.exec = Jvm.exec) (hb : c.code = cc) {a b : Int} {off : Int} {tgt : Nat} (d : decode cc pc = .ok (.if_icmp .lt off, 3)) (ht : (pc : Int) + off = (tgt : Int)) (hr : (-2147483648 ≤ a ∧ a ≤ 2147483647) ∧ (-2147483648 ≤ b ∧ b ≤ 2147483647)) (kt : a < b → W p l e R s m args below meth c H locs cells slots Q (F0 m tgt ls rest)) (kf : b ≤ a → W p l e R s m args below meth c H locs cells slots Q (F0 m (pc + 3) ls rest)) : W p l e R s m args below meth c H locs cells slots Q (F0 m pc ls (.int (iI b) :: .int (iI a) :: rest)) := by
  refine lv_icmp_lt hx hb d ht (fun h => kt ?_) (fun h => kf ?_)
  all_goals
    first
      | rw [iI_eq hr.1 hr.2] at h
      | rw [iI_lt hr.1 hr.2] at h
      | rw [iI_lt hr.2 hr.1] at h
      | rw [iI_le hr.1 hr.2] at h
      | rw [iI_le hr.2 hr.1] at h
    omega
theorem pv_if_lt (hx : p.tables.exec = Jvm.exec) (hb : c.code = cc) {a : Int} {off : Int} {tgt : Nat} (d : decode cc pc = .ok (.ifCond .lt off, 3)) (ht : (pc : Int) + off = (tgt : Int)) (hr : (-2147483648 ≤ a ∧ a ≤ 2147483647)) (kt : a < 0 → W p l e R s m args below meth c H locs cells slots Q (F0 m tgt ls rest)) (kf : 0 ≤ a → W p l e R s m args below meth c H locs cells slots Q (F0 m (pc + 3) ls rest)) : W p l e R s m args below meth c H locs cells slots Q (F0 m pc ls (.int (iI a) :: rest)) := by
  have h0 : (-2147483648 : Int) ≤ 0 ∧ (0 : Int) ≤ 2147483647 := by omega
  refine lv_if_lt hx hb d ht (fun h => kt ?_) (fun h => kf ?_)
  all_goals
    rw [← iI_0] at h
    first
      | rw [iI_eq hr h0] at h
      | rw [iI_lt hr h0] at h
      | rw [iI_lt h0 hr] at h
      | rw [iI_le hr h0] at h
      | rw [iI_le h0 hr] at h
    omega
theorem pv_icmp_ge (hx : p.tables.exec = Jvm.exec) (hb : c.code = cc) {a b : Int} {off : Int} {tgt : Nat} (d : decode cc pc = .ok (.if_icmp .ge off, 3)) (ht : (pc : Int) + off = (tgt : Int)) (hr : (-2147483648 ≤ a ∧ a ≤ 2147483647) ∧ (-2147483648 ≤ b ∧ b ≤ 2147483647)) (kt : b ≤ a → W p l e R s m args below meth c H locs cells slots Q (F0 m tgt ls rest)) (kf : a < b → W p l e R s m args below meth c H locs cells slots Q (F0 m (pc + 3) ls rest)) : W p l e R s m args below meth c H locs cells slots Q (F0 m pc ls (.int (iI b) :: .int (iI a) :: rest)) := by
  refine lv_icmp_ge hx hb d ht (fun h => kt ?_) (fun h => kf ?_)
  all_goals
    first
      | rw [iI_eq hr.1 hr.2] at h
      | rw [iI_lt hr.1 hr.2] at h
      | rw [iI_lt hr.2 hr.1] at h
      | rw [iI_le hr.1 hr.2] at h
      | rw [iI_le hr.2 hr.1] at h
    omega
theorem pv_if_ge (hx : p.tables.exec = Jvm.exec) (hb : c.code = cc) {a : Int} {off : Int} {tgt : Nat} (d : decode cc pc = .ok (.ifCond .ge off, 3)) (ht : (pc : Int) + off = (tgt : Int)) (hr : (-2147483648 ≤ a ∧ a ≤ 2147483647)) (kt : 0 ≤ a → W p l e R s m args below meth c H locs cells slots Q (F0 m tgt ls rest)) (kf : a < 0 → W p l e R s m args below meth c H locs cells slots Q (F0 m (pc + 3) ls rest)) : W p l e R s m args below meth c H locs cells slots Q (F0 m pc ls (.int (iI a) :: rest)) := by
  have h0 : (-2147483648 : Int) ≤ 0 ∧ (0 : Int) ≤ 2147483647 := by omega
  refine lv_if_ge hx hb d ht (fun h => kt ?_) (fun h => kf ?_)
  all_goals
    rw [← iI_0] at h
    first
      | rw [iI_eq hr h0] at h
      | rw [iI_lt hr h0] at h
      | rw [iI_lt h0 hr] at h
      | rw [iI_le hr h0] at h
      | rw [iI_le h0 hr] at h
    omega
theorem pv_icmp_gt (hx : p.tables.exec = Jvm.exec) (hb : c.code = cc) {a b : Int} {off : Int} {tgt : Nat} (d : decode cc pc = .ok (.if_icmp .gt off, 3)) (ht : (pc : Int) + off = (tgt : Int)) (hr : (-2147483648 ≤ a ∧ a ≤ 2147483647) ∧ (-2147483648 ≤ b ∧ b ≤ 2147483647)) (kt : b < a → W p l e R s m args below meth c H locs cells slots Q (F0 m tgt ls rest)) (kf : a ≤ b → W p l e R s m args below meth c H locs cells slots Q (F0 m (pc + 3) ls rest)) : W p l e R s m args below meth c H locs cells slots Q (F0 m pc ls (.int (iI b) :: .int (iI a) :: rest)) := by
  refine lv_icmp_gt hx hb d ht (fun h => kt ?_) (fun h => kf ?_)
  all_goals
    first
      | rw [iI_eq hr.1 hr.2] at h
      | rw [iI_lt hr.1 hr.2] at h
      | rw [iI_lt hr.2 hr.1] at h
      | rw [iI_le hr.1 hr.2] at h
      | rw [iI_le hr.2 hr.1] at h
    omega
theorem pv_if_gt (hx : p.tables.exec = Jvm.exec) (hb : c.code = cc) {a : Int} {off : Int} {tgt : Nat} (d : decode cc pc = .ok (.ifCond .gt off, 3)) (ht : (pc : Int) + off = (tgt : Int)) (hr : (-2147483648 ≤ a ∧ a ≤ 2147483647)) (kt : 0 < a → W p l e R s m args below meth c H locs cells slots Q (F0 m tgt ls rest)) (kf : a ≤ 0 → W p l e R s m args below meth c H locs cells slots Q (F0 m (pc + 3) ls rest)) : W p l e R s m args below meth c H locs cells slots Q (F0 m pc ls (.int (iI a) :: rest)) := by
  have h0 : (-2147483648 : Int) ≤ 0 ∧ (0 : Int) ≤ 2147483647 := by omega
  refine lv_if_gt hx hb d ht (fun h => kt ?_) (fun h => kf ?_)
  all_goals
    rw [← iI_0] at h
    first
      | rw [iI_eq hr h0] at h
      | rw [iI_lt hr h0] at h
      | rw [iI_lt h0 hr] at h
      | rw [iI_le hr h0] at h
      | rw [iI_le h0 hr] at h
    omega
theorem pv_icmp_le (hx : p.tables.exec = Jvm.exec) (hb : c.code = cc) {a b : Int} {off : Int} {tgt : Nat} (d : decode cc pc = .ok (.if_icmp .le off, 3)) (ht : (pc : Int) + off = (tgt : Int)) (hr : (-2147483648 ≤ a ∧ a ≤ 2147483647) ∧ (-2147483648 ≤ b ∧ b ≤ 2147483647)) (kt : a ≤ b → W p l e R s m args below meth c H locs cells slots Q (F0 m tgt ls rest)) (kf : b < a → W p l e R s m args below meth c H locs cells slots Q (F0 m (pc + 3) ls rest)) : W p l e R s m args below meth c H locs cells slots Q (F0 m pc ls (.int (iI b) :: .int (iI a) :: rest)) := by
  refine lv_icmp_le hx hb d ht (fun h => kt ?_) (fun h => kf ?_)
  all_goals
    first
      | rw [iI_eq hr.1 hr.2] at h
      | rw [iI_lt hr.1 hr.2] at h
      | rw [iI_lt hr.2 hr.1] at h
      | rw [iI_le hr.1 hr.2] at h
      | rw [iI_le hr.2 hr.1] at h
    omega
theorem pv_if_le (hx : p.tables.exec = Jvm.exec) (hb : c.code = cc) {a : Int} {off : Int} {tgt : Nat} (d : decode cc pc = .ok (.ifCond .le off, 3)) (ht : (pc : Int) + off = (tgt : Int)) (hr : (-2147483648 ≤ a ∧ a ≤ 2147483647)) (kt : a ≤ 0 → W p l e R s m args below meth c H locs cells slots Q (F0 m tgt ls rest)) (kf : 0 < a → W p l e R s m args below meth c H locs cells slots Q (F0 m (pc + 3) ls rest)) : W p l e R s m args below meth c H locs cells slots Q (F0 m pc ls (.int (iI a) :: rest)) := by
  have h0 : (-2147483648 : Int) ≤ 0 ∧ (0 : Int) ≤ 2147483647 := by omega
  refine lv_if_le hx hb d ht (fun h => kt ?_) (fun h => kf ?_)
  all_goals
    rw [← iI_0] at h
    first
      | rw [iI_eq hr h0] at h
      | rw [iI_lt hr h0] at h
      | rw [iI_lt h0 hr] at h
      | rw [iI_le hr h0] at h
      | rw [iI_le h0 hr] at h
    omega
theorem pv_iinc (hx : p.tables.exec = Jvm.exec) (hb : c.code = cc) {i nL k : Nat} {n a : Int} {lv lv' : List (Nat × Value)} (d : decode cc pc = .ok (.iinc i n, 3)) (h : lv_has ls nL lv) (hk : lv[k]? = some (i, .int (iI a))) (hn : i < nL) (hl : (i, Value.int (iI (a + n))) :: lv.filter (fun q => !(q.1 == i) && !(q.1 + 1 == i && q.2.category == 2)) = lv')
    (kk : ∀ ls' : Array Slot, lv_has ls' nL lv' → W p l e R s m args below meth c H locs cells slots Q (F0 m (pc + 3) ls' rest)) : W p l e R s m args below meth c H locs cells slots Q (F0 m pc ls rest) := lv_iinc (v := iI (a + n)) hx hb d h hk (iI_add a n) hn hl kk
end PVR
section PVW
variable {p : Program} {l : Launch} {e : Env} {R : Room} {s : State} {m : MethodId} {args : Array Value} {below : List Frame} {meth : Method} {c : Code} {H : Heap} {locs : List Loc} {cells slots : Nat} {Q : State → Prop}
variable {cc : ByteArray} {pc : Nat} {ls : Array Slot} {rest : List Value} {D : va_G} {cl : List vw_C} {ws : va_W} {tys : List (ClassId × FieldType)} {a : Nat} {A : Nat → Prop} {H0 : Heap}
theorem pv_iald (hx : p.tables.exec = Jvm.exec) (hb : c.code = cc) (hK : va_K D cl tys s) (hP : va_P D cl ws H) (q0 t0 : Nat) {cA : ClassId} {n : Nat} {f : Nat → Int32} (ha : ws[q0]? = some (a, .inl (cA, n, .inl f))) (ht : tys[t0]? = some (cA, .int)) {i : Int} {v : Int} (hi : 0 ≤ i ∧ i < n) (hn : n ≤ 2147483647) (hv : f i.toNat = iI v) (d : decode cc pc = .ok (.iaload, 1))
    (kk : W p l e R s m args below meth c H locs cells slots Q (F0 m (pc + 1) ls (.int (iI v) :: rest))) : W p l e R s m args below meth c H locs cells slots Q (F0 m pc ls (.int (iI i) :: .ref a :: rest)) := by
  refine va_iald hx hb hK hP q0 t0 ha ht (iI_in hi hn) d ?_
  rw [iI_N ⟨hi.1, by omega⟩, hv]
  exact kk
theorem pv_zald (hx : p.tables.exec = Jvm.exec) (hb : c.code = cc) (hK : va_K D cl tys s) (hP : va_P D cl ws H) (q0 t0 : Nat) {cA : ClassId} {n : Nat} {f : Nat → Int32} (ha : ws[q0]? = some (a, .inl (cA, n, .inl f))) (ht : tys[t0]? = some (cA, .boolean)) {i : Int} {v : Int} (hi : 0 ≤ i ∧ i < n) (hn : n ≤ 2147483647) (hv : f i.toNat = iI v) (d : decode cc pc = .ok (.baload, 1))
    (kk : W p l e R s m args below meth c H locs cells slots Q (F0 m (pc + 1) ls (.int (iI v) :: rest))) : W p l e R s m args below meth c H locs cells slots Q (F0 m pc ls (.int (iI i) :: .ref a :: rest)) := by
  refine va_zald hx hb hK hP q0 t0 ha ht (iI_in hi hn) d ?_
  rw [iI_N ⟨hi.1, by omega⟩, hv]
  exact kk
theorem pv_iast (hx : p.tables.exec = Jvm.exec) (hb : c.code = cc) (hK : va_K D cl tys s) (hP : va_P D cl ws H) (hD : va_D A ws) (hS : va_S A H0 H locs) (q0 t0 : Nat) {cA : ClassId} {n : Nat} {f : Nat → Int32} (ha : ws[q0]? = some (a, .inl (cA, n, .inl f))) (ht : tys[t0]? = some (cA, .int)) {i : Int} {v : Int} (hi : 0 ≤ i ∧ i < n) (hn : n ≤ 2147483647) (d : decode cc pc = .ok (.iastore, 1))
    (kk : ∀ (H1 : Heap) (locs1 : List Loc), va_P D cl (ws.set q0 (a, .inl (cA, n, .inl (upd f i.toNat (iI v))))) H1 → va_D A (ws.set q0 (a, .inl (cA, n, .inl (upd f i.toNat (iI v))))) → va_S A H0 H1 locs1 → W p l e R s m args below meth c H1 locs1 cells slots Q (F0 m (pc + 1) ls rest)) : W p l e R s m args below meth c H locs cells slots Q (F0 m pc ls (.int (iI v) :: .int (iI i) :: .ref a :: rest)) := by
  refine va_iast hx hb hK hP hD hS q0 t0 ha ht (iI_in hi hn) d ?_
  rw [iI_N ⟨hi.1, by omega⟩]
  exact kk
theorem pv_zast (hx : p.tables.exec = Jvm.exec) (hb : c.code = cc) (hK : va_K D cl tys s) (hP : va_P D cl ws H) (hD : va_D A ws) (hS : va_S A H0 H locs) (q0 t0 : Nat) {cA : ClassId} {n : Nat} {f : Nat → Int32} (ha : ws[q0]? = some (a, .inl (cA, n, .inl f))) (ht : tys[t0]? = some (cA, .boolean)) {i : Int} {v : Int} (hi : 0 ≤ i ∧ i < n) (hn : n ≤ 2147483647) (hv : v = 0 ∨ v = 1) (d : decode cc pc = .ok (.bastore, 1))
    (kk : ∀ (H1 : Heap) (locs1 : List Loc), va_P D cl (ws.set q0 (a, .inl (cA, n, .inl (upd f i.toNat (iI v))))) H1 → va_D A (ws.set q0 (a, .inl (cA, n, .inl (upd f i.toNat (iI v))))) → va_S A H0 H1 locs1 → W p l e R s m args below meth c H1 locs1 cells slots Q (F0 m (pc + 1) ls rest)) : W p l e R s m args below meth c H locs cells slots Q (F0 m pc ls (.int (iI v) :: .int (iI i) :: .ref a :: rest)) := by
  have hz : vp_nar .boolean (iI v) = iI v := by rcases hv with rfl | rfl <;> decide +kernel
  refine va_zast hx hb hK hP hD hS q0 t0 ha ht (iI_in hi hn) d ?_
  rw [iI_N ⟨hi.1, by omega⟩]
  first
    | exact kk
    | (rw [hz]; exact kk)
theorem pv_alen (hx : p.tables.exec = Jvm.exec) (hb : c.code = cc) (hK : va_K D cl tys s) (hP : va_P D cl ws H) (q0 t0 : Nat) {cA : ClassId} {x : vp_A} (ha : ws[q0]? = some (a, .inl (cA, x))) {ty : FieldType} (ht : tys[t0]? = some (cA, ty)) {v : Int} (hv : Int32.ofNat x.1 = iI v) (d : decode cc pc = .ok (.arraylength, 1))
    (kk : W p l e R s m args below meth c H locs cells slots Q (F0 m (pc + 1) ls (.int (iI v) :: rest))) : W p l e R s m args below meth c H locs cells slots Q (F0 m pc ls (.ref a :: rest)) := va_alen hx hb hK hP q0 t0 ha ht hv d kk
/-- an int array outside of the world, read as the heap stands -/
theorem pv_xld (hx : p.tables.exec = Jvm.exec) (hb : c.code = cc) {b L : Nat} {xs : Nat → Int32} {A9 : Nat → Prop} (hX : va_T .int b L (fun j => .int (xs j)) A9 s H) {i : Int} {v : Int} (hi : 0 ≤ i ∧ i < L) (hn : L ≤ 2147483647) (hv : xs i.toNat = iI v) (d : decode cc pc = .ok (.iaload, 1))
    (kk : W p l e R s m args below meth c H locs cells slots Q (F0 m (pc + 1) ls (.int (iI v) :: rest))) : W p l e R s m args below meth c H locs cells slots Q (F0 m pc ls (.int (iI i) :: .ref b :: rest)) := by
  obtain ⟨scr, h1, h2, h3, h4, h5, h6, h7⟩ := hX
  have hlt : i.toNat < L := by omega
  have e := iI_N (a := i) ⟨hi.1, by omega⟩
  have hin : ¬ (iI i < 0 ∨ scr.slots.size ≤ (iI i).toNatClampNeg) := by
    rw [e]
    intro q
    rcases q with q | q
    · rw [← iI_0, iI_lt (by omega) (by omega)] at q
      omega
    · omega
  exact W.iald (v := .int (iI v)) hx hb h1 h2 h3 hin (by rw [e, h6 _ hlt]; show some (Value.int (xs i.toNat)) = _; rw [hv]) rfl rfl d kk
theorem pv_xlen (hx : p.tables.exec = Jvm.exec) (hb : c.code = cc) {b L : Nat} {xs : Nat → Int32} {A9 : Nat → Prop} (hX : va_T .int b L (fun j => .int (xs j)) A9 s H) {v : Int} (hv : Int32.ofNat L = iI v) (d : decode cc pc = .ok (.arraylength, 1))
    (kk : W p l e R s m args below meth c H locs cells slots Q (F0 m (pc + 1) ls (.int (iI v) :: rest))) : W p l e R s m args below meth c H locs cells slots Q (F0 m pc ls (.ref b :: rest)) := by
  obtain ⟨scr, h1, h2, h3, h4, h5, h6, h7⟩ := hX
  rw [← hv] at kk
  exact W.alen (n := Int32.ofNat L) hx hb h1 h2 h5 rfl rfl d kk
end PVW
