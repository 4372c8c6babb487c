/-! small methods that write nothing: their answers -/
section
variable {d : Nat} {Q : Option Value → zH → Prop} {h : zH} {x x0 x1 x2 x3 x4 : Int32} {c : Nat}
theorem zok_nI {k n : Nat} (hk : k < n) (hn : n < 2 ^ 31) : zok (nI k) n := ⟨nI_pos (by omega), by rw [nI_clamp (by omega)]; exact hk⟩
theorem zix_nI {k : Nat} (hk : k < 2 ^ 31) : zix (nI k) = k := nI_clamp hk
theorem zlc (x y : Int64) : lg_cmp x y = if y < x then 1 else if x = y then 0 else -1 := rfl
theorem zwlt (a b : Int32) : (a.toInt64 < b.toInt64) = (a < b) := by
  apply propext
  rw [Int64.lt_iff_toInt_lt, Int32.lt_iff_toInt_lt, Int32.toInt_toInt64, Int32.toInt_toInt64]
theorem zweq (a b : Int32) : (a.toInt64 = b.toInt64) = (a = b) := by
  apply propext
  rw [← Int64.toInt_inj, ← Int32.toInt_inj, Int32.toInt_toInt64, Int32.toInt_toInt64]
theorem zlt3 (a b : Int32) : a < b ∨ a = b ∨ b < a := by
  rw [Int32.lt_iff_toInt_lt, Int32.lt_iff_toInt_lt, ← Int32.toInt_inj]
  omega
theorem zlt_as {a b : Int32} (h : a < b) : ¬ b < a ∧ ¬ a = b ∧ ¬ b = a ∧ a ≤ b ∧ ¬ b ≤ a := by
  rw [Int32.lt_iff_toInt_lt] at h
  refine ⟨?_, ?_, ?_, ?_, ?_⟩
  · rw [Int32.lt_iff_toInt_lt]; omega
  · rw [← Int32.toInt_inj]; omega
  · rw [← Int32.toInt_inj]; omega
  · rw [Int32.le_iff_toInt_le]; omega
  · rw [Int32.le_iff_toInt_le]; omega
theorem zlt_ir (a : Int32) : ¬ a < a := by rw [Int32.lt_iff_toInt_lt]; omega
theorem zle_rf (a : Int32) : a ≤ a := by rw [Int32.le_iff_toInt_le]; omega
/-- the compare of longs that came from ints, against 0 -/
theorem zcmp_lt (a b : Int32) : (lg_cmp a.toInt64 b.toInt64 < 0) = (a < b) := by
  rw [zlc]
  simp only [zwlt, zweq]
  rcases zlt3 a b with q | q | q
  · have := zlt_as q; simp [this, q]
  · subst q; simp [zlt_ir]
  · have := zlt_as q; simp [this, q]
theorem zcmp_le (a b : Int32) : (lg_cmp a.toInt64 b.toInt64 ≤ 0) = (a ≤ b) := by
  rw [zlc]
  simp only [zwlt, zweq]
  rcases zlt3 a b with q | q | q
  · have := zlt_as q; simp [this, q]
  · subst q; simp [zlt_ir, zle_rf]
  · have := zlt_as q; simp [this, q]
theorem c103 : zM (d + 1) 103 [.int x0, .int x1, .int x2] h Q = if x1 ≤ x0 ∧ x0 ≤ x2 then Q (some (.int 1)) h else Q (some (.int 0)) h := by
  rw [m103]
  simp only [↓r103_0, ↓r103_1, ↓r103_2, ↓r103_5, ↓r103_6, ↓r103_7, ↓r103_10, ↓r103_11, ↓r103_14, ↓r103_15f, ↓r103_15t]
  by_cases h1 : x0 < x1 <;> by_cases h2 : x0 ≤ x2 <;> simp [h1, h2, Int32.not_le.mpr, Int32.not_lt.mp]
theorem c104 : zM (d + 2) 104 [.int x0, .int x1, .int x2] h Q = Q (some (.int (if x1 < (if x0 < x2 then x0 else x2) then (if x0 < x2 then x0 else x2) else x1))) h := by
  rw [m104]
  simp only [↓r104_0, ↓r104_1, ↓r104_2, ↓r104_3, ↓r104_6, ↓r104_9, m1001, m1000, Option.toList, List.cons_append, List.nil_append]
theorem c108 : zM (d + 1) 108 [.int x0, .int x1, .int x2] h Q = Q (some (.int (if x0 < x1 then x1 else if x0 ≤ x2 then x0 else x2))) h := by
  rw [m108]
  simp only [↓r108_0, ↓r108_1, ↓r108_2, ↓r108_5, ↓r108_6, ↓r108_9, ↓r108_10, ↓r108_11, ↓r108_14, ↓r108_15, ↓r108_18, ↓r108_19]
  by_cases h1 : x0 < x1 <;> by_cases h2 : x0 ≤ x2 <;> simp [h1, h2]
theorem c107 : zM (d + 1) 107 [.int x0] h Q = Q (some (.int (if x0 < 0 then -1000000005 else x0))) h := by
  rw [m107]
  simp only [↓r107_0, ↓r107_1, ↓r107_4, ↓r107_6, ↓r107_9, ↓r107_10]
  by_cases h1 : x0 < 0 <;> simp [h1]
theorem c109 : zM (d + 1) 109 [.int x0, .int x1] h Q = Q (some (.int (if x0 < x1 then x1 - x0 else x0 - x1))) h := by
  rw [m109]
  simp only [↓r109_0, ↓r109_1, ↓r109_2, ↓r109_5, ↓r109_6, ↓r109_7, ↓r109_8, ↓r109_11, ↓r109_12, ↓r109_13, ↓r109_14]
  by_cases h1 : x0 < x1 <;> simp [h1]
theorem c106 : zM (d + 1) 106 [.long x0.toInt64, .long x1.toInt64, .long x2.toInt64] h Q = if x1 ≤ x0 ∧ x0 ≤ x2 then Q (some (.int 1)) h else Q (some (.int 0)) h := by
  rw [m106]
  simp only [↓r106_0, ↓r106_1, ↓r106_2, ↓r106_3, ↓r106_6, ↓r106_7, ↓r106_9, ↓r106_10, ↓r106_13, ↓r106_14, ↓r106_17, ↓r106_18f, ↓r106_18t, zcmp_lt, zcmp_le]
  by_cases h1 : x0 < x1 <;> by_cases h2 : x0 ≤ x2 <;> simp [h1, h2, Int32.not_le.mpr, Int32.not_lt.mp]
theorem c0 : zM (d + 2) 0 [.int x0] h Q = if 0 ≤ x0 ∧ x0 ≤ 5 then Q (some (.int 1)) h else Q (some (.int 0)) h := by
  rw [m0]
  simp only [↓r0_0, ↓r0_1, ↓r0_2, ↓r0_3, ↓r0_6f, ↓r0_6t, c103, Option.toList, List.cons_append, List.nil_append]
theorem c113 : zM (d + 1) 113 [.ref 60, .int x0, .int x1] h Q = (zok (12 + 5 * x0 + x1) 3062 ∧ Q (some (.int (h 61 (zix (12 + 5 * x0 + x1))))) h) := by
  rw [m113]
  simp only [↓r113_0, ↓r113_1, ↓r113_4, ↓r113_6, ↓r113_7, ↓r113_8, ↓r113_9, ↓r113_10, ↓r113_11, ↓r113_12, ↓r113_13, zl_61]
theorem c112 : zM (d + 1) 112 [.ref 60, .int x0] h Q = Q (some (.int (62 + 200 * x0))) h := by
  rw [m112]
  simp only [↓r112_0, ↓r112_2, ↓r112_5, ↓r112_6, ↓r112_7, ↓r112_8]
theorem c115 : zM (d + 2) 115 [.ref 60, .int x0] h Q = if 0 ≤ x0 ∧ x0 ≤ h 61 0 - 1 then Q (some (.int 1)) h else Q (some (.int 0)) h := by
  rw [m115]
  have e0 : Int32.toInt64 0 = (0 : Int32).toInt64 := rfl
  simp only [↓r115_0, ↓r115_1, ↓r115_2, ↓r115_3, ↓r115_4, ↓r115_7, ↓r115_8, ↓r115_9, ↓r115_10, ↓r115_11, ↓r115_12, ↓r115_15f, ↓r115_15t, zl_61, c106, Option.toList, List.cons_append, List.nil_append, zok]
  simp [zix]
theorem c37 (hc : zst c) : zM (d + 2) 37 [.ref c, .int x0] h Q = if 0 ≤ x0 ∧ x0 ≤ h c 1 - 1 then Q (some (.int 1)) h else Q (some (.int 0)) h := by
  rw [m37]
  simp only [↓r37_0, ↓r37_1, ↓r37_2, ↓r37_3, ↓r37_6, ↓r37_7, ↓r37_8, ↓r37_11f, ↓r37_11t, c103, Option.toList, List.cons_append, List.nil_append, zl_s1 hc, zs_s1 hc, zn_s1 hc, zl_s2 hc, zs_s2 hc, zn_s2 hc, zl_s3 hc, zs_s3 hc, zn_s3 hc, zl_s4 hc, zs_s4 hc, zn_s4 hc, zl_s5 hc, zs_s5 hc, zn_s5 hc, zl_s6 hc, zs_s6 hc, zn_s6 hc, zl_s7 hc, zs_s7 hc, zn_s7 hc, zc_s hc, true_and]
end
