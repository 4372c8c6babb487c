/-! what kinds do: one set of words for both sides -/
def kTakes (k : Int32) : Int32 := if k = 1 then 3 else if k = 2 then 1 else if k = 3 then 3 else if k = 4 then 4 else 2
def kUrges (k v : Int32) : Int32 := if k = 1 then v + 5 else if k = 2 then v / 2 else if k = 3 then 0 else if k = 4 then v / 2 else if k = 5 then 9999 else v
def kPays (k v : Int32) : Int32 := if k = 1 then 2 * v else if k = 2 then v / 2 else if k = 3 then (if 2 * v ≤ 10 then 0 else 2 * v - 10) else if k = 4 then v / 2 + 3 else if k = 5 then 0 else v
def kWorth (k w : Int32) : Int32 := if k = 1 then w + 8 else if k = 2 then 99 - w else if k = 3 then 2 * (w + 8) else if k = 4 then 92 - w else if k = 5 then 5 else w
def kIs (own k : Int32) : Bool := decide (own = k) || decide (k = 0) || (decide (k = 1) && decide (own = 3)) || (decide (k = 2) && decide (own = 4))
def kOk (k : Int32) : Prop := k = 0 ∨ k = 1 ∨ k = 2 ∨ k = 3 ∨ k = 4 ∨ k = 5
section
variable {d : Nat} {Q : Option Value → zH → Prop} {h : zH} {x x0 x1 x2 x3 x4 : Int32} {c : Nat}
theorem zq_ite (Q : Option Value → zH → Prop) {p : Prop} [Decidable p] {a b : Int32} {h : zH} : Q (some (.int (if p then a else b))) h = if p then Q (some (.int a)) h else Q (some (.int b)) h := by
  split <;> rfl
theorem zsub7 (x : Int32) : (99 : Int32) - x - 7 = 92 - x := by
  grind
theorem c3 : zM (d + 1) 3 [.int x0] h Q = Q (some (.int (kTakes x0))) h := by
  rw [m3]
  simp only [↓r3_0, ↓r3_1, ↓r3_32, ↓r3_33, ↓r3_34, ↓r3_35, ↓r3_36, ↓r3_37, ↓r3_38, ↓r3_39, kTakes, zq_ite Q]
theorem c4 : zM (d + 1) 4 [.int x0, .int x1] h Q = Q (some (.int (kUrges x0 x1))) h := by
  rw [m4]
  simp only [↓r4_0, ↓r4_1, ↓r4_36, ↓r4_37, ↓r4_38, ↓r4_39, ↓r4_40, ↓r4_41, ↓r4_42, ↓r4_43, ↓r4_44, ↓r4_45, ↓r4_46, ↓r4_49, ↓r4_50, ↓r4_51, kUrges, zq_ite Q]
theorem c5 : zM (d + 1) 5 [.int x0, .int x1] h Q = Q (some (.int (kWorth x0 x1))) h := by
  rw [m5]
  simp only [↓r5_0, ↓r5_1, ↓r5_36, ↓r5_37, ↓r5_39, ↓r5_40, ↓r5_41, ↓r5_42, ↓r5_43, ↓r5_45, ↓r5_46, ↓r5_47, ↓r5_48, ↓r5_50, ↓r5_51, ↓r5_52, ↓r5_53, ↓r5_55, ↓r5_56, ↓r5_57, ↓r5_59, ↓r5_60, ↓r5_61, ↓r5_62, ↓r5_63, ↓r5_64, kWorth, zq_ite Q, zsub7]
theorem c121 : zM (d + 2) 121 [.ref 60, .int x0] h Q = (zok (12 + 5 * x0 + 0) 3062 ∧ Q (some (.int (kTakes (h 61 (zix (12 + 5 * x0 + 0)))))) h) := by
  rw [m121]
  simp only [↓r121_0, ↓r121_1, ↓r121_2, ↓r121_3, ↓r121_6, ↓r121_36, ↓r121_37, ↓r121_38, ↓r121_39, ↓r121_40, ↓r121_41, ↓r121_42, ↓r121_43, c113, kTakes, zq_ite Q, Option.toList, List.cons_append, List.nil_append]
theorem c122 : zM (d + 2) 122 [.ref 60, .int x0] h Q = (zok (12 + 5 * x0 + 3) 3062 ∧ zok (12 + 5 * x0 + 0) 3062 ∧ Q (some (.int (kUrges (h 61 (zix (12 + 5 * x0 + 0))) (h 61 (zix (12 + 5 * x0 + 3)))))) h) := by
  rw [m122]
  simp only [↓r122_0, ↓r122_1, ↓r122_2, ↓r122_3, ↓r122_6, ↓r122_7, ↓r122_8, ↓r122_9, ↓r122_10, ↓r122_13, ↓r122_48, ↓r122_49, ↓r122_50, ↓r122_51, ↓r122_52, ↓r122_53, ↓r122_54, ↓r122_55, ↓r122_56, ↓r122_57, ↓r122_58, ↓r122_61, ↓r122_62, ↓r122_63, c113, kUrges, zq_ite Q, Option.toList, List.cons_append, List.nil_append]
theorem c123 : zM (d + 2) 123 [.ref 60, .int x0] h Q = (zok (12 + 5 * x0 + 1) 3062 ∧ zok (12 + 5 * x0 + 0) 3062 ∧ Q (some (.int (kWorth (h 61 (zix (12 + 5 * x0 + 0))) (h 61 (zix (12 + 5 * x0 + 1)))))) h) := by
  rw [m123]
  simp only [↓r123_0, ↓r123_1, ↓r123_2, ↓r123_3, ↓r123_6, ↓r123_7, ↓r123_8, ↓r123_9, ↓r123_10, ↓r123_13, ↓r123_48, ↓r123_49, ↓r123_51, ↓r123_52, ↓r123_53, ↓r123_55, ↓r123_56, ↓r123_57, ↓r123_58, ↓r123_59, ↓r123_60, ↓r123_62, ↓r123_63, ↓r123_64, ↓r123_65, ↓r123_67, ↓r123_68, ↓r123_69, ↓r123_70, ↓r123_71, ↓r123_72, ↓r123_73, c113, kWorth, zq_ite Q, Option.toList, List.cons_append, List.nil_append]
theorem c125 : zM (d + 1) 125 [.int x0, .int x1] h Q = if kIs x0 x1 = true then Q (some (.int 1)) h else Q (some (.int 0)) h := by
  rw [m125]
  simp only [↓r125_0, ↓r125_1, ↓r125_2, ↓r125_5, ↓r125_6, ↓r125_9, ↓r125_10, ↓r125_11, ↓r125_14, ↓r125_15, ↓r125_16, ↓r125_19, ↓r125_20, ↓r125_21, ↓r125_24, ↓r125_25, ↓r125_26, ↓r125_29, ↓r125_30, ↓r125_33, ↓r125_34f, ↓r125_34t, kIs]
  by_cases h1 : x0 = x1 <;> by_cases h2 : x1 = 0 <;> by_cases h3 : x1 = 1 <;> by_cases h4 : x0 = 3 <;> by_cases h5 : x1 = 2 <;> by_cases h6 : x0 = 4 <;> simp [h1, h2, h3, h4, h5, h6]
theorem zk_80 : zkon 80 0 = -1 ∧ zkon 80 1 = 0 ∧ zkon 80 2 = 0 ∧ zkon 80 3 = 1 ∧ zkon 80 4 = 2 ∧ zkon 80 5 = 0 := by decide
theorem c1 (hk : kOk x0) : zM (d + 3) 1 [.int x0, .int x1] h Q = if kIs x0 x1 = true then Q (some (.int 1)) h else Q (some (.int 0)) h := by
  rw [m1]
  obtain ⟨k0, k1, k2, k3, k4, k5⟩ := zk_80
  rcases hk with rfl | rfl | rfl | rfl | rfl | rfl <;> simp [↓r1_0, ↓r1_1, ↓r1_2, ↓r1_3, ↓r1_4, ↓r1_5, ↓r1_6, ↓r1_9, ↓r1_10, ↓r1_13, ↓r1_16, ↓r1_17, ↓r1_18, ↓r1_21, ↓r1_22f, ↓r1_22t, ↓r1_23, ↓r1_26, ↓r1_27, ↓r1_28, ↓r1_29, ↓r1_32, ↓r1_35, ↓r1_36f, ↓r1_36t, c0, zl_80, k0, k1, k2, k3, k4, k5, kIs, zok, zix] <;> by_cases e0 : x1 = 0 <;> by_cases e1 : x1 = 1 <;> by_cases e2 : x1 = 2 <;> by_cases e3 : x1 = 3 <;> by_cases e4 : x1 = 4 <;> by_cases e5 : x1 = 5 <;> simp [e0, e1, e2, e3, e4, e5, eq_comm]
theorem kgt (x : Int32) (h1 : 0 ≤ x) (h2 : x ≤ 999) : (0 < 2 * x - 10) = (¬ 2 * x ≤ 10) := by
  grind
theorem c2 (h1 : 0 ≤ x1) (h2 : x1 ≤ 999) : zM (d + 2) 2 [.int x0, .int x1] h Q = Q (some (.int (kPays x0 x1))) h := by
  rw [m2]
  simp only [↓r2_0, ↓r2_1, ↓r2_36, ↓r2_37, ↓r2_38, ↓r2_39, ↓r2_40, ↓r2_41, ↓r2_42, ↓r2_43, ↓r2_44, ↓r2_46, ↓r2_47, ↓r2_50, ↓r2_51, ↓r2_52, ↓r2_53, ↓r2_54, ↓r2_55, ↓r2_56, ↓r2_57, ↓r2_58, ↓r2_59, ↓r2_60, ↓r2_61, ↓r2_62, ↓r2_63, ↓r2_64, m1000, kPays, zq_ite Q, Option.toList, List.cons_append, List.nil_append]
  simp only [kgt x1 h1 h2, ite_not]
end
