def j_bt (s : Int) (i : Nat) : Bool := (Int64.ofInt s).toBitVec.getLsbD i
theorem j_bt_or {s t : Int} {i : Nat} : j_bt (j_or s t) i = (j_bt s i || j_bt t i) := by
  unfold j_bt j_or
  rw [Int64.ofInt_toInt, Int64.toBitVec_or, BitVec.getLsbD_or]
theorem j_sh1 : ∀ k : Nat, k < 64 → ((1 : Int64) <<< ((Int32.ofInt k).toInt64 &&& 63)).toBitVec = BitVec.twoPow 64 k := by decide +kernel
theorem j_bt_shl {k : Int} {i : Nat} (hk : 0 ≤ k ∧ k < 64) : j_bt (j_shl 1 k) i = decide ((i : Int) = k) := by
  obtain ⟨n, rfl⟩ := Int.eq_ofNat_of_zero_le hk.1
  unfold j_bt j_shl
  rw [Int64.ofInt_toInt]
  have h1 : Int64.ofInt 1 = 1 := rfl
  rw [h1, j_sh1 n (by omega), BitVec.getLsbD_twoPow]
  by_cases q : n = i
  · subst q
    simp [show n < 64 by omega]
  · have q2 : ¬ (i : Int) = n := by omega
    simp [q, q2]
theorem j_sm : ∀ n : Nat, n < 64 → (((Int32.ofInt n).toInt64 &&& 63).toBitVec.smod 64).toNat = n := by decide +kernel
theorem j_bt_shr {s k : Int} (hk : 0 ≤ k ∧ k < 64) : j_and (j_shr s k) 1 = if j_bt s k.toNat = true then 1 else 0 := by
  obtain ⟨n, rfl⟩ := Int.eq_ofNat_of_zero_le hk.1
  unfold j_and j_shr j_bt
  rw [Int64.ofInt_toInt]
  have hb : (Int64.ofInt s >>> ((Int32.ofInt n).toInt64 &&& 63)).toBitVec.getLsbD 0 = (Int64.ofInt s).toBitVec.getLsbD n := by
    rw [Int64.toBitVec_shiftRight, BitVec.sshiftRight_eq', BitVec.getLsbD_sshiftRight, j_sm n (by omega)]
    simp [show n < 64 by omega]
  have h2 : (Int64.ofInt s >>> ((Int32.ofInt n).toInt64 &&& 63)) &&& Int64.ofInt 1 = if (Int64.ofInt s).toBitVec.getLsbD n = true then 1 else 0 := by
    rw [← hb]
    generalize Int64.ofInt s >>> ((Int32.ofInt n).toInt64 &&& 63) = y
    refine Int64.toBitVec_inj.mp ?_
    rw [Int64.toBitVec_and]
    show y.toBitVec &&& 1#64 = _
    rw [BitVec.and_one_eq_setWidth_ofBool_getLsbD]
    cases y.toBitVec.getLsbD 0 <;> rfl
  rw [h2]
  show Int64.toInt _ = if (Int64.ofInt s).toBitVec.getLsbD n = true then 1 else 0
  cases (Int64.ofInt s).toBitVec.getLsbD n <;> rfl
theorem j_tst {s k : Int} (hk : 0 ≤ k ∧ k < 64) : j_cmp (j_and (j_shr s k) 1) 1 = 0 ↔ j_bt s k.toNat = true := by
  rw [j_bt_shr hk]
  by_cases h : j_bt s k.toNat = true
  · simp [h, j_cmp]
  · simp [h, j_cmp]
theorem j_tst0 {s k : Int} (hk : 0 ≤ k ∧ k < 64) : j_cmp (j_and (j_shr s k) 1) 0 = 0 ↔ ¬ j_bt s k.toNat = true := by
  rw [j_bt_shr hk]
  by_cases h : j_bt s k.toNat = true
  · simp [h, j_cmp]
  · simp [h, j_cmp]
theorem j_or_comm {s t : Int} : j_or s t = j_or t s := by
  unfold j_or
  exact congrArg Int64.toInt (Int64.toBitVec_inj.mp (by rw [Int64.toBitVec_or, Int64.toBitVec_or, BitVec.or_comm]))
theorem j_or_assoc {s t u : Int} : j_or (j_or s t) u = j_or s (j_or t u) := by
  unfold j_or
  rw [Int64.ofInt_toInt, Int64.ofInt_toInt]
  exact congrArg Int64.toInt (Int64.toBitVec_inj.mp (by simp only [Int64.toBitVec_or, BitVec.or_assoc]))
