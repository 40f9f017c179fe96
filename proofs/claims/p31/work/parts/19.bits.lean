def bt (x : Int32) (i : Nat) : Bool := x.toBitVec.getLsbD i
theorem b_ext {x y : Int32} (h : ∀ i, i < 32 → bt x i = bt y i) : x = y := Int32.toBitVec_inj.mp (BitVec.eq_of_getLsbD_eq (fun i hi => h i hi))
theorem b_or (x y : Int32) (i : Nat) : bt (x ||| y) i = (bt x i || bt y i) := by unfold bt; rw [Int32.toBitVec_or, BitVec.getLsbD_or]
theorem b_and (x y : Int32) (i : Nat) : bt (x &&& y) i = (bt x i && bt y i) := by unfold bt; rw [Int32.toBitVec_and, BitVec.getLsbD_and]
theorem b_xor (x y : Int32) (i : Nat) : bt (x ^^^ y) i = (bt x i ^^ bt y i) := by unfold bt; rw [Int32.toBitVec_xor, BitVec.getLsbD_xor]
theorem b_big {x : Int32} {i : Nat} (h : 32 ≤ i) : bt x i = false := BitVec.getLsbD_of_ge _ _ h
theorem b_m1 : ∀ i, i < 32 → bt (-1) i = true := by decide +kernel
theorem b_0 (i : Nat) : bt 0 i = false := BitVec.getLsbD_zero
theorem s_l : ∀ n, n < 32 → ((nI n &&& 31).toBitVec.smod 32).toNat = n := by decide +kernel
theorem s_u : ∀ n, n < 32 → (((nI n).toUInt32 &&& Int32.toUInt32 31).toBitVec % 32).toNat = n := by decide +kernel
theorem b_shl (n : Nat) (hn : n < 32) (x : Int32) {i : Nat} (hi : i < 32) : bt (x <<< (nI n &&& 31)) i = (decide (n ≤ i) && bt x (i - n)) := by
  unfold bt
  rw [Int32.toBitVec_shiftLeft]
  show (x.toBitVec <<< ((nI n &&& 31).toBitVec.smod 32).toNat).getLsbD i = _
  rw [s_l n hn, BitVec.getLsbD_shiftLeft]
  rcases Nat.lt_or_ge i n with h | h
  · simp [h, Nat.not_le.mpr h]
  · simp [hi, h, Nat.not_lt.mpr h]
theorem b_ushr (n : Nat) (hn : n < 32) (x : Int32) (i : Nat) : bt ((x.toUInt32 >>> ((nI n).toUInt32 &&& Int32.toUInt32 31)).toInt32) i = bt x (n + i) := by
  show (x.toUInt32 >>> ((nI n).toUInt32 &&& Int32.toUInt32 31)).toBitVec.getLsbD i = x.toUInt32.toBitVec.getLsbD (n + i)
  rw [UInt32.toBitVec_shiftRight]
  show (x.toUInt32.toBitVec >>> (((nI n).toUInt32 &&& Int32.toUInt32 31).toBitVec % 32).toNat).getLsbD i = _
  rw [s_u n hn, BitVec.getLsbD_ushiftRight]
theorem b_sshr (n : Nat) (hn : n < 32) (x : Int32) {i : Nat} (hi : i < 32) : bt (x >>> (nI n &&& 31)) i = if n + i < 32 then bt x (n + i) else bt x 31 := by
  unfold bt
  rw [Int32.toBitVec_shiftRight]
  show (x.toBitVec.sshiftRight ((nI n &&& 31).toBitVec.smod 32).toNat).getLsbD i = _
  rw [s_l n hn, BitVec.getLsbD_sshiftRight, BitVec.msb_eq_getLsbD_last]
  simp [hi]
theorem b_1 (i : Nat) : bt (nI 1) i = decide (i = 0) := by
  by_cases h : i < 32
  · have := (by decide +kernel : ∀ i, i < 32 → bt (nI 1) i = decide (i = 0)) i h
    exact this
  · rw [b_big (by omega)]; simp; omega
theorem hasB_bt (x : Int32) (k : Nat) (hk : k < 32) : hasB x (nI k) = bt x k := by
  have key : (x >>> (nI k &&& 31)) &&& nI 1 = nI 1 ↔ bt x k = true := by
    constructor
    · intro h
      have h2 : bt ((x >>> (nI k &&& 31)) &&& nI 1) 0 = bt (nI 1) 0 := by rw [h]
      rw [b_and, b_sshr k hk x (by omega), b_1] at h2
      simpa [hk] using h2
    · intro h
      apply b_ext
      intro i hi
      rw [b_and, b_1, b_sshr k hk x hi]
      by_cases h0 : i = 0
      · subst h0; simp [hk, h]
      · simp [h0]
  rw [hasB]
  cases hb : bt x k
  · exact decide_eq_false (fun h => by rw [key.mp h] at hb; cases hb)
  · exact decide_eq_true (key.mpr hb)
theorem bt_bit {k i : Nat} (hk : k < 32) : bt (nI 1 <<< (nI k &&& 31)) i = decide (i = k) := by
  by_cases hi : i < 32
  · rw [b_shl k hk _ hi, b_1]
    by_cases h : i = k
    · subst h; simp
    · by_cases h2 : k ≤ i
      · have : ¬ i - k = 0 := by omega
        simp [h, this]
      · simp [h, h2]
  · rw [b_big (by omega)]; simp; omega
theorem bt_nI0 (i : Nat) : bt (nI 0) i = false := b_0 i
