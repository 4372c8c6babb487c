/-! sums, doctors, who has been over -/
def sSum (s : Nat → Int32) (w n : Nat) : Int32 := zfo (fun i a => a + s (12 + 5 * i + w)) n 0
def sDoc (s : Nat → Int32) (b : Int32) (n : Nat) : Bool := zany (fun i => decide (s (12 + 5 * i + 2) = b) && decide (s (12 + 5 * i + 0) = 5)) n
def sNot (s : Nat → Int32) (n : Nat) : Bool := zany (fun i => decide (s (12 + 5 * i + 4) = 0)) n
section
variable {d : Nat} {Q : Option Value → zH → Prop} {h : zH} {x x0 x1 x2 x3 x4 : Int32} {c n k : Nat}
theorem c146 {w : Nat} (hw : (x0 = 3 ∧ w = 3) ∨ (x0 = 4 ∧ w = 4)) (hn : h 61 0 = nI n) (h10 : n ≤ 10) : zM (d + 2) 146 [.ref 60, .int x0] h Q = Q (some (.int (sSum (h 61) w n))) h := by
  have h113 : ∀ (k : Nat) (Q' : Option Value → zH → Prop), k < 10 → zM (d + 1) 113 [.ref 60, .int (nI k), .int x0] h Q' = Q' (some (.int (h 61 (12 + 5 * k + w)))) h := by
    intro k Q' hk
    rcases hw with ⟨rfl, rfl⟩ | ⟨rfl, rfl⟩
    · exact c113_3 hk
    · exact c113_4 hk
  rw [m146]
  simp only [↓r146_0, ↓r146_1, ↓r146_2, ↓r146_3, ↓r146_5, ↓r146_6, ↓r146_9, ↓r146_10, ↓r146_11, ↓r146_14, ↓r146_15, ↓r146_16, ↓r146_17, ↓r146_18, ↓r146_21, ↓r146_22, ↓r146_23, ↓r146_26, ↓r146_29, ↓r146_30]
  have hs : ∀ (i : Nat) (a : Int32), i < n → zR (d + 1) 146 Q 4 [some (.ref 60), some (.int x0), some (.int a), some (.int (nI i))] [] h = zR (d + 1) 146 Q 4 [some (.ref 60), some (.int x0), some (.int (a + h 61 (12 + 5 * i + w))), some (.int (nI (i + 1)))] [] h := by
    intro i a hi
    rw [r146_4]
    simp only [↓r146_0, ↓r146_1, ↓r146_2, ↓r146_3, ↓r146_5, ↓r146_6, ↓r146_9, ↓r146_10, ↓r146_11, ↓r146_14, ↓r146_15, ↓r146_16, ↓r146_17, ↓r146_18, ↓r146_21, ↓r146_22, ↓r146_23, ↓r146_26, ↓r146_29, ↓r146_30, zl_61, zok0, zix0, true_and, hn, nI_lt hi (by omega : n < 2 ^ 31), if_true, h113 i _ (by omega), Option.toList, List.cons_append, List.nil_append, nI_1]
  have := zloop (fun i a => zR (d + 1) 146 Q 4 [some (.ref 60), some (.int x0), some (.int a), some (.int (nI i))] [] h) _ n hs 0
  simp only [nI_0] at this
  rw [this, r146_4]
  simp only [↓r146_0, ↓r146_1, ↓r146_2, ↓r146_3, ↓r146_5, ↓r146_6, ↓r146_9, ↓r146_10, ↓r146_11, ↓r146_14, ↓r146_15, ↓r146_16, ↓r146_17, ↓r146_18, ↓r146_21, ↓r146_22, ↓r146_23, ↓r146_26, ↓r146_29, ↓r146_30, zl_61, zok0, zix0, true_and, hn, nI_nlt (Nat.le_refl n) (by omega), if_false, sSum]
theorem c41 {j : Nat} (hj : j = 4 ∨ j = 5) (hc : zst c) (hn : h c 1 = nI n) (h10 : n ≤ 10) : zM (d + 1) 41 [.ref c, .ref (c + j)] h Q = Q (some (.int (zfo (fun i a => a + h (c + j) i) n 0))) h := by
  have ha : ∀ {k : Int32 → Prop}, zan (c + j) h k = k 10 := by
    intro k
    rcases hj with rfl | rfl
    · exact zn_s4 hc
    · exact zn_s5 hc
  have hl : ∀ {x : Int32} {k : Int32 → Prop}, zal (c + j) x h k = (zok x 10 ∧ k (h (c + j) (zix x))) := by
    intro x k
    rcases hj with rfl | rfl
    · exact zl_s4 hc
    · exact zl_s5 hc
  rw [m41]
  simp only [↓r41_0, ↓r41_1, ↓r41_2, ↓r41_3, ↓r41_5, ↓r41_6, ↓r41_9, ↓r41_12, ↓r41_13, ↓r41_14, ↓r41_15, ↓r41_18, ↓r41_19, ↓r41_20, ↓r41_21, ↓r41_22, ↓r41_23, ↓r41_24, ↓r41_27, ↓r41_30, ↓r41_31]
  have hs : ∀ (i : Nat) (a : Int32), i < n → zR d 41 Q 4 [some (.ref c), some (.ref (c + j)), some (.int a), some (.int (nI i))] [] h = zR d 41 Q 4 [some (.ref c), some (.ref (c + j)), some (.int (a + h (c + j) i)), some (.int (nI (i + 1)))] [] h := by
    intro i a hi
    rw [r41_4]
    simp only [↓r41_0, ↓r41_1, ↓r41_2, ↓r41_3, ↓r41_5, ↓r41_6, ↓r41_9, ↓r41_12, ↓r41_13, ↓r41_14, ↓r41_15, ↓r41_18, ↓r41_19, ↓r41_20, ↓r41_21, ↓r41_22, ↓r41_23, ↓r41_24, ↓r41_27, ↓r41_30, ↓r41_31, ha, hl, zc_s hc, true_and, hn, nI_lt hi (by omega : n < 2 ^ 31), if_true, zok_nI (by omega : i < 10) (by omega), zix_nI (by omega : i < 2 ^ 31), nI_1, show (10 : Int32) = nI 10 from rfl, nI_lt (by omega : i < 10) (by omega)]
  have := zloop (fun i a => zR d 41 Q 4 [some (.ref c), some (.ref (c + j)), some (.int a), some (.int (nI i))] [] h) _ n hs 0
  simp only [nI_0] at this
  rw [this, r41_4]
  simp only [↓r41_0, ↓r41_1, ↓r41_2, ↓r41_3, ↓r41_5, ↓r41_6, ↓r41_9, ↓r41_12, ↓r41_13, ↓r41_14, ↓r41_15, ↓r41_18, ↓r41_19, ↓r41_20, ↓r41_21, ↓r41_22, ↓r41_23, ↓r41_24, ↓r41_27, ↓r41_30, ↓r41_31, zc_s hc, true_and, hn, nI_nlt (Nat.le_refl n) (by omega), if_false]
theorem c142 (hn : h 61 0 = nI n) (h10 : n ≤ 10) : zM (d + 2) 142 [.ref 60, .int x0] h Q = if sDoc (h 61) x0 n = true then Q (some (.int 1)) h else Q (some (.int 0)) h := by
  rw [m142]
  simp only [↓r142_0, ↓r142_1, ↓r142_3, ↓r142_4, ↓r142_7, ↓r142_8, ↓r142_9, ↓r142_12, ↓r142_13, ↓r142_14, ↓r142_15, ↓r142_18, ↓r142_19, ↓r142_22, ↓r142_23, ↓r142_24, ↓r142_25, ↓r142_28, ↓r142_29, ↓r142_32, ↓r142_33f, ↓r142_33t, ↓r142_34, ↓r142_37, ↓r142_40, ↓r142_41f, ↓r142_41t]
  have hs : ∀ (i : Nat), i < n → zR (d + 1) 142 Q 2 [some (.ref 60), some (.int x0), some (.int (nI i))] [] h = if (decide (h 61 (12 + 5 * i + 2) = x0) && decide (h 61 (12 + 5 * i + 0) = 5)) = true then Q (some (.int 1)) h else zR (d + 1) 142 Q 2 [some (.ref 60), some (.int x0), some (.int (nI (i + 1)))] [] h := by
    intro i hi
    rw [r142_2]
    simp only [↓r142_0, ↓r142_1, ↓r142_3, ↓r142_4, ↓r142_7, ↓r142_8, ↓r142_9, ↓r142_12, ↓r142_13, ↓r142_14, ↓r142_15, ↓r142_18, ↓r142_19, ↓r142_22, ↓r142_23, ↓r142_24, ↓r142_25, ↓r142_28, ↓r142_29, ↓r142_32, ↓r142_33f, ↓r142_33t, ↓r142_34, ↓r142_37, ↓r142_40, ↓r142_41f, ↓r142_41t, zl_61, zok0, zix0, true_and, hn, nI_lt hi (by omega : n < 2 ^ 31), if_true, c113_2 (by omega : i < 10), c113_0 (by omega : i < 10), Option.toList, List.cons_append, List.nil_append, nI_1]
    by_cases a1 : h 61 (12 + 5 * i + 2) = x0 <;> by_cases a2 : h 61 (12 + 5 * i + 0) = 5 <;> simp [a1, a2]
  have := zsearch (fun i => zR (d + 1) 142 Q 2 [some (.ref 60), some (.int x0), some (.int (nI i))] [] h) _ _ n hs
  simp only [nI_0] at this
  rw [this, r142_2]
  simp only [↓r142_0, ↓r142_1, ↓r142_3, ↓r142_4, ↓r142_7, ↓r142_8, ↓r142_9, ↓r142_12, ↓r142_13, ↓r142_14, ↓r142_15, ↓r142_18, ↓r142_19, ↓r142_22, ↓r142_23, ↓r142_24, ↓r142_25, ↓r142_28, ↓r142_29, ↓r142_32, ↓r142_33f, ↓r142_33t, ↓r142_34, ↓r142_37, ↓r142_40, ↓r142_41f, ↓r142_41t, zl_61, zok0, zix0, true_and, hn, nI_nlt (Nat.le_refl n) (by omega), if_false, sDoc]
  rfl
theorem kIs5 (k : Int32) : (kIs k 5 = true) = (k = 5) := by
  unfold kIs
  simp
theorem c56 (hc : zst c) (hn : h c 1 = nI n) (h10 : n ≤ 10) (hk : ∀ i, i < n → kOk (h (c + 1) i)) : zM (d + 4) 56 [.ref c] h Q = if zany (fun i => decide (h (c + 3) i = h (c + 6) 0) && decide (h (c + 1) i = 5)) n = true then Q (some (.int 1)) h else Q (some (.int 0)) h := by
  have e0 : zok 0 6 = True := by unfold zok; decide
  rw [m56]
  simp only [↓r56_0, ↓r56_1, ↓r56_3, ↓r56_4, ↓r56_7, ↓r56_10, ↓r56_11, ↓r56_14, ↓r56_15, ↓r56_16, ↓r56_17, ↓r56_20, ↓r56_21, ↓r56_22, ↓r56_25, ↓r56_26, ↓r56_29, ↓r56_30, ↓r56_31, ↓r56_32, ↓r56_35, ↓r56_38, ↓r56_39f, ↓r56_39t, ↓r56_40, ↓r56_43, ↓r56_46, ↓r56_47f, ↓r56_47t]
  have hs : ∀ (i : Nat), i < n → zR (d + 3) 56 Q 2 [some (.ref c), some (.int (nI i))] [] h = if (decide (h (c + 3) i = h (c + 6) 0) && decide (h (c + 1) i = 5)) = true then Q (some (.int 1)) h else zR (d + 3) 56 Q 2 [some (.ref c), some (.int (nI (i + 1)))] [] h := by
    intro i hi
    rw [r56_2]
    simp only [↓r56_0, ↓r56_1, ↓r56_3, ↓r56_4, ↓r56_7, ↓r56_10, ↓r56_11, ↓r56_14, ↓r56_15, ↓r56_16, ↓r56_17, ↓r56_20, ↓r56_21, ↓r56_22, ↓r56_25, ↓r56_26, ↓r56_29, ↓r56_30, ↓r56_31, ↓r56_32, ↓r56_35, ↓r56_38, ↓r56_39f, ↓r56_39t, ↓r56_40, ↓r56_43, ↓r56_46, ↓r56_47f, ↓r56_47t, zl_s1 hc, zs_s1 hc, zn_s1 hc, zl_s2 hc, zs_s2 hc, zn_s2 hc, zl_s3 hc, zs_s3 hc, zn_s3 hc, zl_s4 hc, zs_s4 hc, zn_s4 hc, zl_s5 hc, zs_s5 hc, zn_s5 hc, zl_s6 hc, zs_s6 hc, zn_s6 hc, zl_s7 hc, zs_s7 hc, zn_s7 hc, zc_s hc, true_and, e0, zix0, hn, nI_lt hi (by omega : n < 2 ^ 31), if_true, zok_nI (by omega : i < 10) (by omega), zix_nI (by omega : i < 2 ^ 31), Option.toList, List.cons_append, List.nil_append, nI_1, c1 (hk i hi), kIs5]
    by_cases a1 : h (c + 3) i = h (c + 6) 0 <;> by_cases a2 : h (c + 1) i = 5 <;> simp [a1, a2, zix0] <;> simp_all
  have := zsearch (fun i => zR (d + 3) 56 Q 2 [some (.ref c), some (.int (nI i))] [] h) _ _ n hs
  simp only [nI_0] at this
  rw [this, r56_2]
  simp only [↓r56_0, ↓r56_1, ↓r56_3, ↓r56_4, ↓r56_7, ↓r56_10, ↓r56_11, ↓r56_14, ↓r56_15, ↓r56_16, ↓r56_17, ↓r56_20, ↓r56_21, ↓r56_22, ↓r56_25, ↓r56_26, ↓r56_29, ↓r56_30, ↓r56_31, ↓r56_32, ↓r56_35, ↓r56_38, ↓r56_39f, ↓r56_39t, ↓r56_40, ↓r56_43, ↓r56_46, ↓r56_47f, ↓r56_47t, zl_s1 hc, zs_s1 hc, zn_s1 hc, zl_s2 hc, zs_s2 hc, zn_s2 hc, zl_s3 hc, zs_s3 hc, zn_s3 hc, zl_s4 hc, zs_s4 hc, zn_s4 hc, zl_s5 hc, zs_s5 hc, zn_s5 hc, zl_s6 hc, zs_s6 hc, zn_s6 hc, zl_s7 hc, zs_s7 hc, zn_s7 hc, zc_s hc, true_and, hn, nI_nlt (Nat.le_refl n) (by omega), if_false]
theorem c157 (hn : h 61 0 = nI n) (h10 : n ≤ 10) : zM (d + 2) 157 [.ref 60] h Q = if sNot (h 61) n = true then Q (some (.int 0)) h else Q (some (.int 1)) h := by
  rw [m157]
  simp only [↓r157_0, ↓r157_1, ↓r157_3, ↓r157_4, ↓r157_7, ↓r157_8, ↓r157_9, ↓r157_12, ↓r157_13, ↓r157_14, ↓r157_15, ↓r157_18, ↓r157_21, ↓r157_22f, ↓r157_22t, ↓r157_23, ↓r157_26, ↓r157_29, ↓r157_30f, ↓r157_30t]
  have hs : ∀ (i : Nat), i < n → zR (d + 1) 157 Q 2 [some (.ref 60), some (.int (nI i))] [] h = if decide (h 61 (12 + 5 * i + 4) = 0) = true then Q (some (.int 0)) h else zR (d + 1) 157 Q 2 [some (.ref 60), some (.int (nI (i + 1)))] [] h := by
    intro i hi
    rw [r157_2]
    simp only [↓r157_0, ↓r157_1, ↓r157_3, ↓r157_4, ↓r157_7, ↓r157_8, ↓r157_9, ↓r157_12, ↓r157_13, ↓r157_14, ↓r157_15, ↓r157_18, ↓r157_21, ↓r157_22f, ↓r157_22t, ↓r157_23, ↓r157_26, ↓r157_29, ↓r157_30f, ↓r157_30t, zl_61, zok0, zix0, true_and, hn, nI_lt hi (by omega : n < 2 ^ 31), if_true, c113_4 (by omega : i < 10), Option.toList, List.cons_append, List.nil_append, nI_1]
    by_cases a1 : h 61 (12 + 5 * i + 4) = 0 <;> simp [a1]
  have := zsearch (fun i => zR (d + 1) 157 Q 2 [some (.ref 60), some (.int (nI i))] [] h) _ _ n hs
  simp only [nI_0] at this
  rw [this, r157_2]
  simp only [↓r157_0, ↓r157_1, ↓r157_3, ↓r157_4, ↓r157_7, ↓r157_8, ↓r157_9, ↓r157_12, ↓r157_13, ↓r157_14, ↓r157_15, ↓r157_18, ↓r157_21, ↓r157_22f, ↓r157_22t, ↓r157_23, ↓r157_26, ↓r157_29, ↓r157_30f, ↓r157_30t, zl_61, zok0, zix0, true_and, hn, nI_nlt (Nat.le_refl n) (by omega), if_false, sNot]
  rfl
theorem c42 (hc : zst c) (hn : h c 1 = nI n) (h10 : n ≤ 10) (ho : ∀ i, i < n → 0 ≤ h (c + 5) i) : zM (d + 1) 42 [.ref c] h Q = if zany (fun i => decide (h (c + 5) i = 0)) n = true then Q (some (.int 0)) h else Q (some (.int 1)) h := by
  rw [m42]
  simp only [↓r42_0, ↓r42_1, ↓r42_3, ↓r42_4, ↓r42_7, ↓r42_10, ↓r42_11, ↓r42_14, ↓r42_15, ↓r42_16, ↓r42_17, ↓r42_20, ↓r42_21f, ↓r42_21t, ↓r42_22, ↓r42_25, ↓r42_28, ↓r42_29f, ↓r42_29t]
  have hs : ∀ (i : Nat), i < n → zR d 42 Q 2 [some (.ref c), some (.int (nI i))] [] h = if decide (h (c + 5) i = 0) = true then Q (some (.int 0)) h else zR d 42 Q 2 [some (.ref c), some (.int (nI (i + 1)))] [] h := by
    intro i hi
    have h0 := ho i hi
    have e1 : (h (c + 5) i < 1) = (h (c + 5) i = 0) := by grind
    rw [r42_2]
    simp only [↓r42_0, ↓r42_1, ↓r42_3, ↓r42_4, ↓r42_7, ↓r42_10, ↓r42_11, ↓r42_14, ↓r42_15, ↓r42_16, ↓r42_17, ↓r42_20, ↓r42_21f, ↓r42_21t, ↓r42_22, ↓r42_25, ↓r42_28, ↓r42_29f, ↓r42_29t, zl_s1 hc, zs_s1 hc, zn_s1 hc, zl_s2 hc, zs_s2 hc, zn_s2 hc, zl_s3 hc, zs_s3 hc, zn_s3 hc, zl_s4 hc, zs_s4 hc, zn_s4 hc, zl_s5 hc, zs_s5 hc, zn_s5 hc, zl_s6 hc, zs_s6 hc, zn_s6 hc, zl_s7 hc, zs_s7 hc, zn_s7 hc, zc_s hc, true_and, hn, nI_lt hi (by omega : n < 2 ^ 31), if_true, zok_nI (by omega : i < 10) (by omega), zix_nI (by omega : i < 2 ^ 31), nI_1, e1]
    by_cases a1 : h (c + 5) i = 0 <;> simp [a1]
  have := zsearch (fun i => zR d 42 Q 2 [some (.ref c), some (.int (nI i))] [] h) _ _ n hs
  simp only [nI_0] at this
  rw [this, r42_2]
  simp only [↓r42_0, ↓r42_1, ↓r42_3, ↓r42_4, ↓r42_7, ↓r42_10, ↓r42_11, ↓r42_14, ↓r42_15, ↓r42_16, ↓r42_17, ↓r42_20, ↓r42_21f, ↓r42_21t, ↓r42_22, ↓r42_25, ↓r42_28, ↓r42_29f, ↓r42_29t, zl_s1 hc, zs_s1 hc, zn_s1 hc, zl_s2 hc, zs_s2 hc, zn_s2 hc, zl_s3 hc, zs_s3 hc, zn_s3 hc, zl_s4 hc, zs_s4 hc, zn_s4 hc, zl_s5 hc, zs_s5 hc, zn_s5 hc, zl_s6 hc, zs_s6 hc, zn_s6 hc, zl_s7 hc, zs_s7 hc, zn_s7 hc, zc_s hc, true_and, hn, nI_nlt (Nat.le_refl n) (by omega), if_false]
end
