/-! reading and writing one number; drawing; the boat's words -/
def kEff (a : Int32) : Int32 := if 30 - (if a < 30 then 30 - a else a - 30) < 0 then 0 else 30 - (if a < 30 then 30 - a else a - 30)
def kMinu (a w : Int32) : Int32 := if w = 0 then 60 else if kEff a = 0 then 60 else if 4 + 300 / (1 + w * kEff a / 30) ≤ 60 then 4 + 300 / (1 + w * kEff a / 30) else 60
section
variable {d : Nat} {Q : Option Value → zH → Prop} {h : zH} {x x0 x1 x2 x3 x4 : Int32} {c : Nat}
theorem zu_same {f : Nat → Int32} {k : Nat} {v : Int32} : upd f k v k = v := pk_us
theorem zaa2 {p q : Prop} : (p ∧ p ∧ q) = (p ∧ q) := propext ⟨fun z => z.2, fun z => ⟨z.1, z⟩⟩
theorem c111 : zM (d + 1) 111 [.ref 60, .int x0, .int x1] h Q = (zok x0 3062 ∧ Q (some (.int (h 61 (zix x0)))) (zhr h 61 (upd (h 61) (zix x0) x1))) := by
  rw [m111]
  simp only [↓r111_0, ↓r111_1, ↓r111_4, ↓r111_5, ↓r111_6, ↓r111_7, ↓r111_8, ↓r111_11, ↓r111_12, ↓r111_13, ↓r111_14, ↓r111_15, zl_61, zs_61, zaa2]
theorem c114 : zM (d + 1) 114 [.ref 60, .int x0, .int x1, .int x2] h Q = (zok (12 + 5 * x0 + x1) 3062 ∧ Q none (zhr h 61 (upd (h 61) (zix (12 + 5 * x0 + x1)) x2))) := by
  rw [m114]
  simp only [↓r114_0, ↓r114_1, ↓r114_4, ↓r114_6, ↓r114_7, ↓r114_8, ↓r114_9, ↓r114_10, ↓r114_11, ↓r114_12, ↓r114_13, ↓r114_14, zl_61, zs_61, zaa2]
theorem zok5 : zok 5 3062 := by unfold zok; decide
def kNext (z : Int32) : Int32 := z * 1103515245 + 12345
def kDraw (z : Int32) : Int32 := ((kNext z).toUInt32 >>> ((8 : Int32).toUInt32 &&& Int32.toUInt32 31)).toInt32
theorem c117 : zM (d + 1) 117 [.ref 60] h Q = Q (some (.int (kDraw (h 61 5)))) (zhr h 61 (upd (h 61) 5 (kNext (h 61 5)))) := by
  rw [m117]
  simp only [↓r117_0, ↓r117_1, ↓r117_4, ↓r117_5, ↓r117_6, ↓r117_9, ↓r117_10, ↓r117_11, ↓r117_13, ↓r117_14, ↓r117_17, ↓r117_18, ↓r117_19, ↓r117_20, ↓r117_23, ↓r117_24, ↓r117_25, ↓r117_27, ↓r117_28, zl_61, zs_61, zok5, true_and, zhr_same, kDraw, kNext]
  simp only [show zix 5 = 5 from rfl, zu_same]
theorem c39 (hc : zst c) : zM (d + 1) 39 [.ref c] h Q = Q (some (.int (kDraw (h c 11)))) (zhr h c (upd (h c) 11 (kNext (h c 11)))) := by
  rw [m39]
  simp only [↓r39_0, ↓r39_1, ↓r39_2, ↓r39_5, ↓r39_7, ↓r39_8, ↓r39_11, ↓r39_12, ↓r39_15, ↓r39_16, ↓r39_19, ↓r39_21, ↓r39_22, zl_s1 hc, zs_s1 hc, zn_s1 hc, zl_s2 hc, zs_s2 hc, zn_s2 hc, zl_s3 hc, zs_s3 hc, zn_s3 hc, zl_s4 hc, zs_s4 hc, zn_s4 hc, zl_s5 hc, zs_s5 hc, zn_s5 hc, zl_s6 hc, zs_s6 hc, zn_s6 hc, zl_s7 hc, zs_s7 hc, zn_s7 hc, zc_s hc, true_and, zhr_same, kDraw, kNext, zu_same]
theorem c129 : zM (d + 2) 129 [.ref 60] h Q = Q (some (.int (kEff (h 61 7)))) h := by
  rw [m129]
  have e7 : zok 7 3062 := by unfold zok; decide
  simp only [↓r129_0, ↓r129_2, ↓r129_3, ↓r129_6, ↓r129_8, ↓r129_9, ↓r129_11, ↓r129_14, ↓r129_15, ↓r129_16, ↓r129_17, ↓r129_20, ↓r129_21, ↓r129_24, ↓r129_25, zl_61, e7, true_and, c109, Option.toList, List.cons_append, List.nil_append, show zix 7 = 7 from rfl]
  rw [kEff, zq_ite Q]
theorem kEff_in (a : Int32) (h1 : 0 ≤ a) (h2 : a ≤ 90) : 0 ≤ kEff a ∧ kEff a ≤ 30 := by
  unfold kEff
  constructor <;> grind
theorem c46 (hc : zst c) (h1 : 0 ≤ h (c + 6) 1) (h2 : h (c + 6) 1 ≤ 90) : zM (d + 2) 46 [.ref c] h Q = Q (some (.int (kEff (h (c + 6) 1)))) h := by
  rw [m46]
  have e7 : zok 1 6 := by unfold zok; decide
  simp only [↓r46_0, ↓r46_1, ↓r46_3, ↓r46_4, ↓r46_7, ↓r46_8, ↓r46_9, ↓r46_11, ↓r46_12, ↓r46_15, ↓r46_16, ↓r46_19, zl_s1 hc, zs_s1 hc, zn_s1 hc, zl_s2 hc, zs_s2 hc, zn_s2 hc, zl_s3 hc, zs_s3 hc, zn_s3 hc, zl_s4 hc, zs_s4 hc, zn_s4 hc, zl_s5 hc, zs_s5 hc, zn_s5 hc, zl_s6 hc, zs_s6 hc, zn_s6 hc, zl_s7 hc, zs_s7 hc, zn_s7 hc, zc_s hc, true_and, e7, m1000, m1002, Option.toList, List.cons_append, List.nil_append, show zix 1 = 1 from rfl]
  congr 3
  unfold kEff
  grind
theorem kMul (w e : Int32) (w1 : 0 ≤ w) (w2 : w ≤ 99) (e1 : 0 ≤ e) (e2 : e ≤ 30) : ∃ p, p ≤ 2970 ∧ w * e = nI p ∧ (p = 0 ↔ w = 0 ∨ e = 0) := by
  obtain ⟨a, ha, rfl⟩ := nI_of2 (M := 99) (n := 99) (by decide) (Int32.not_lt.mpr w1) w2
  obtain ⟨b, hb, rfl⟩ := nI_of2 (M := 30) (n := 30) (by decide) (Int32.not_lt.mpr e1) e2
  refine ⟨a * b, Nat.le_trans (Nat.mul_le_mul ha hb) (by omega), pk_mul a b, ?_⟩
  rw [← nI_0, nI_eq (by omega) (by omega), nI_eq (by omega) (by omega)]
  exact Nat.mul_eq_zero
theorem kDen (p : Nat) (h : p ≤ 2970) : 1 + nI p / 30 = nI (1 + p / 30) ∧ ¬ (1 + nI p / 30 = 0) := by
  have e : nI p / 30 = nI (p / 30) := pk_div (d := 30) (by omega) (by omega) (by omega)
  have e2 : 1 + nI p / 30 = nI (1 + p / 30) := by rw [e]; exact nI_add 1 _
  refine ⟨e2, ?_⟩
  rw [e2]
  exact nI_ne0 (by omega) (by omega)
theorem c130 (h1 : 0 ≤ h 61 7) (h2 : h 61 7 ≤ 90) (h3 : 0 ≤ h 61 9) (h4 : h 61 9 ≤ 99) : zM (d + 3) 130 [.ref 60] h Q = Q (some (.int (kMinu (h 61 7) (h 61 9)))) h := by
  rw [m130]
  have e7 : zok 9 3062 := by unfold zok; decide
  obtain ⟨q1, q2⟩ := kEff_in _ h1 h2
  obtain ⟨p, p1, p2, p3⟩ := kMul _ _ h3 h4 q1 q2
  have hd := (kDen p p1).2
  rw [← p2] at hd
  simp only [↓r130_0, ↓r130_1, ↓r130_4, ↓r130_6, ↓r130_7, ↓r130_10, ↓r130_11, ↓r130_14, ↓r130_17, ↓r130_19, ↓r130_20, ↓r130_21, ↓r130_24, ↓r130_25, ↓r130_26, ↓r130_29, ↓r130_31, ↓r130_32, ↓r130_33, ↓r130_36, ↓r130_37, ↓r130_39, ↓r130_40, ↓r130_41, ↓r130_42, ↓r130_43, ↓r130_44, ↓r130_45, ↓r130_47, ↓r130_50, ↓r130_52, ↓r130_55, ↓r130_56, zl_61, e7, true_and, c129, Option.toList, List.cons_append, List.nil_append, show zix 9 = 9 from rfl, hd, not_false_eq_true, kMinu, zq_ite Q]
theorem kMinu_eq (w e : Int32) (w1 : 0 ≤ w) (w2 : w ≤ 99) (e1 : 0 ≤ e) (e2 : e ≤ 30) : (w * e ≤ 0) = (w = 0 ∨ e = 0) := by
  obtain ⟨p, p1, p2, p3⟩ := kMul _ _ w1 w2 e1 e2
  rw [p2, ← p3]
  apply propext
  rw [← nI_0, nI_leI (by omega) (by omega)]
  omega
theorem c47 (hc : zst c) (h1 : 0 ≤ h (c + 6) 1) (h2 : h (c + 6) 1 ≤ 90) (h3 : 0 ≤ h (c + 6) 3) (h4 : h (c + 6) 3 ≤ 99) : zM (d + 3) 47 [.ref c] h Q = Q (some (.int (kMinu (h (c + 6) 1) (h (c + 6) 3)))) h := by
  rw [m47]
  have e7 : zok 3 6 := by unfold zok; decide
  obtain ⟨q1, q2⟩ := kEff_in _ h1 h2
  obtain ⟨p, p1, p2, p3⟩ := kMul _ _ h3 h4 q1 q2
  have hd := (kDen p p1).2
  rw [← p2] at hd
  simp only [↓r47_0, ↓r47_1, ↓r47_4, ↓r47_5, ↓r47_6, ↓r47_7, ↓r47_10, ↓r47_11, ↓r47_12, ↓r47_13, ↓r47_16, ↓r47_18, ↓r47_19, ↓r47_21, ↓r47_22, ↓r47_25, ↓r47_26, ↓r47_27, ↓r47_29, ↓r47_30, ↓r47_31, ↓r47_32, ↓r47_33, ↓r47_36, zl_s1 hc, zs_s1 hc, zn_s1 hc, zl_s2 hc, zs_s2 hc, zn_s2 hc, zl_s3 hc, zs_s3 hc, zn_s3 hc, zl_s4 hc, zs_s4 hc, zn_s4 hc, zl_s5 hc, zs_s5 hc, zn_s5 hc, zl_s6 hc, zs_s6 hc, zn_s6 hc, zl_s7 hc, zs_s7 hc, zn_s7 hc, zc_s hc, true_and, e7, c46 hc h1 h2, m1001, Option.toList, List.cons_append, List.nil_append, show zix 3 = 3 from rfl, hd, not_false_eq_true, kMinu_eq _ _ h3 h4 q1 q2]
  have key : kMinu (h (c + 6) 1) (h (c + 6) 3) = if h (c + 6) 3 = 0 ∨ kEff (h (c + 6) 1) = 0 then 60 else if 4 + 300 / (1 + h (c + 6) 3 * kEff (h (c + 6) 1) / 30) < 60 then 4 + 300 / (1 + h (c + 6) 3 * kEff (h (c + 6) 1) / 30) else 60 := by
    unfold kMinu
    by_cases g1 : h (c + 6) 3 = 0
    · simp [g1]
    · by_cases g2 : kEff (h (c + 6) 1) = 0
      · simp [g1, g2]
      · simp only [g1, g2, if_false, or_self]
        generalize 4 + 300 / (1 + h (c + 6) 3 * kEff (h (c + 6) 1) / 30) = v
        grind
  rw [key]
  simp only [zq_ite Q]
end
