/-! Int32 by its bits (the family "bt" of kit/laws/BITS.to-paste) -/
def bt (x : Int32) (i : Nat) : Bool := x.toBitVec.getLsbD i
theorem b_ext {x y : Int32} (h : ∀ i, i < 32 → bt x i = bt y i) : x = y := Int32.toBitVec_inj.mp (BitVec.eq_of_getLsbD_eq (fun i hi => h i hi))
theorem b_or (x y : Int32) (i : Nat) : bt (x ||| y) i = (bt x i || bt y i) := by unfold bt; rw [Int32.toBitVec_or, BitVec.getLsbD_or]
theorem b_and (x y : Int32) (i : Nat) : bt (x &&& y) i = (bt x i && bt y i) := by unfold bt; rw [Int32.toBitVec_and, BitVec.getLsbD_and]
theorem b_xor (x y : Int32) (i : Nat) : bt (x ^^^ y) i = (bt x i ^^ bt y i) := by unfold bt; rw [Int32.toBitVec_xor, BitVec.getLsbD_xor]
theorem b_0 (i : Nat) : bt 0 i = false := BitVec.getLsbD_zero
theorem s_l : ∀ n, n < 32 → ((nI n &&& 31).toBitVec.smod 32).toNat = n := by decide +kernel
theorem b_shl (n : Nat) (hn : n < 32) (x : Int32) {i : Nat} (hi : i < 32) : bt (x <<< (nI n &&& 31)) i = (decide (n ≤ i) && bt x (i - n)) := by
  unfold bt
  rw [Int32.toBitVec_shiftLeft]
  show (x.toBitVec <<< ((nI n &&& 31).toBitVec.smod 32).toNat).getLsbD i = _
  rw [s_l n hn, BitVec.getLsbD_shiftLeft]
  rcases Nat.lt_or_ge i n with h | h
  · simp [h, Nat.not_le.mpr h]
  · simp [hi, h, Nat.not_lt.mpr h]
theorem b_sshr (n : Nat) (hn : n < 32) (x : Int32) {i : Nat} (hi : i < 32) : bt (x >>> (nI n &&& 31)) i = if n + i < 32 then bt x (n + i) else bt x 31 := by
  unfold bt
  rw [Int32.toBitVec_shiftRight]
  show (x.toBitVec.sshiftRight ((nI n &&& 31).toBitVec.smod 32).toNat).getLsbD i = _
  rw [s_l n hn, BitVec.getLsbD_sshiftRight, BitVec.msb_eq_getLsbD_last]
  simp [hi]
/-- bit i of a, as the programs ask for it -/
def bitOf (a : Int32) (i : Nat) : Int32 := (a >>> (nI i &&& 31)) &&& 1
theorem bt_1 (i : Nat) : bt 1 i = decide (i = 0) := by
  unfold bt
  show (1#32).getLsbD i = _
  rw [BitVec.getLsbD_one]
  simp
theorem bitOf_bt (a : Int32) {i : Nat} (hi : i < 32) : bitOf a i = if bt a i = true then 1 else 0 := by
  apply b_ext
  intro k hk
  unfold bitOf
  rw [b_and, b_sshr i hi a hk, bt_1]
  by_cases h0 : k = 0
  · subst h0
    rw [if_pos (by omega), Nat.add_zero]
    by_cases hb : bt a i = true
    · rw [if_pos hb, hb, bt_1]; rfl
    · rw [if_neg hb, Bool.eq_false_iff.mpr hb, b_0]; rfl
  · rw [decide_eq_false h0, Bool.and_false]
    by_cases hb : bt a i = true
    · rw [if_pos hb, bt_1, decide_eq_false h0]
    · rw [if_neg hb, b_0]
theorem bt_set (a : Int32) {i j : Nat} (hi : i < 32) (hj : j < 32) : bt (a ||| 1 <<< (nI j &&& 31)) i = (bt a i || decide (i = j)) := by
  rw [b_or, b_shl j hj 1 hi, bt_1]
  by_cases h : i = j
  · subst h; simp
  · by_cases h2 : j ≤ i
    · simp [h, h2]; omega
    · simp [h, h2]
