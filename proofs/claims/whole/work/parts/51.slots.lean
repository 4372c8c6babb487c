/-! slots: ask, item, rest, lay -/
section
variable {d : Nat} {x0 x1 x2 x3 x4 v x z a : Int32} {h h' : zH} {n m N n' m' k w j f b c t i : Nat} {s row row' : Nat → Int32} {Q : Option Value → zH → Prop}
theorem zc_so (hk : k < 5) : zcls (44 + 3 * k) = 4 := by
  rcases (by omega : k = 0 ∨ k = 1 ∨ k = 2 ∨ k = 3 ∨ k = 4) with rfl | rfl | rfl | rfl | rfl <;> rfl
theorem p_ask : zPair (d + 20) (d + 20) 92 192 [.int x0, .int x1] := by
  intro h Q2 hR hQ
  have hR0 := hR
  obtain ⟨n, m, N, hRN⟩ := hR
  obtain ⟨-, -, -, -, hSl, -⟩ := id hRN
  rw [rSlots_all] at hSl
  by_cases g0 : 0 ≤ x0 ∧ x0 ≤ 4
  · obtain ⟨k, hk, rfl⟩ := hasN (q := 4) (by decide) g0
    have hk5 : k < 5 := by omega
    have hc := zc_so hk5
    obtain ⟨q1, q2⟩ := hSl k hk5
    have hx : ∀ v, (∀ h1 Q, h1 = h → zM (d + 20) 192 [.ref 60, .int (nI k), .int x1] h1 Q = Q (some (.int v)) h) → zPo h (d + 20) 192 [.int (nI k), .int x1] Q2 (some (.int v)) h := by
      intro v e
      refine zPo_in rfl rfl ?_
      rw [e _ _ rfl]
      exact zPq_in rfl (hQ _ _ hR0 rfl rfl)
    have zz := zok_nI hk5 (by omega : 5 < 2 ^ 31)
    have zy : zix (nI k) = k := zix_nI (by omega)
    rw [m92]
    simp (decide := true) only [↓r92_0, ↓r92_1, ↓r92_2, ↓r92_5, ↓r92_5n, ↓r92_6, ↓r92_6n, ↓r92_7, ↓r92_7n, ↓r92_10, ↓r92_11, ↓r92_14, ↓r92_17, ↓r92_19, ↓r92_20, ↓r92_20n, ↓r92_21, ↓r92_24, ↓r92_27, ↓r92_29, ↓r92_30, ↓r92_30n, ↓r92_31, ↓r92_34, ↓r92_35, ↓r92_38, ↓r92_38n, ↓r92_39, ↓r92_42, ↓r92_43, ↓r92_46, ↓r92_49, ↓r92_51, ↓r92_52, ↓r92_52n, ↓r92_53, ↓r92_56, ↓r92_56n, ↓r92_57, ↓r92_60, ↓r92_63, c96k hk5, c0, Option.toList, List.cons_append, List.nil_append, true_and, q1, hc]
    by_cases g1 : 0 ≤ x1 ∧ x1 ≤ 5
    · simp (decide := true) only [if_pos g1, ↓reduceIte]
      by_cases g2 : h 67 k = 0
      · simp (decide := true) only [if_pos g2, ↓reduceIte]
        refine hx _ fun h1 Q e => ?_
        subst e
        rw [m192]
        simp (decide := true) only [↓r192_0, ↓r192_1, ↓r192_4, ↓r192_7, ↓r192_8, ↓r192_9, ↓r192_10, ↓r192_13, ↓r192_16, ↓r192_19, ↓r192_21, ↓r192_22, ↓r192_23, ↓r192_26, ↓r192_27, ↓r192_28, ↓r192_31, ↓r192_34, ↓r192_35, ↓r192_36, ↓r192_39, ↓r192_40, ↓r192_41, ↓r192_42, ↓r192_45, ↓r192_46, ↓r192_49, ↓r192_50, ↓r192_51, ↓r192_52, ↓r192_55, ↓r192_58, ↓r192_59, ↓r192_62, ↓r192_63, ↓r192_64, ↓r192_67, ↓r192_69, c190, c106, if_pos g0, if_pos g1, ↓reduceIte, Option.toList, List.cons_append, List.nil_append, zl_67, zz, zy, if_pos g2, true_and]
      · simp (decide := true) only [if_neg g2, ↓reduceIte]
        by_cases g3 : h 67 k = 1
        · simp only [if_pos g3]
          have hq : kOk (h (44 + 3 * k) 1) ∧ h (44 + 3 * k) 1 = h 68 k ∧ h 69 k = kWorth (h (44 + 3 * k) 1) (h (44 + 3 * k) 2) := by
            rcases q2 with e | ⟨e, r⟩ | ⟨e, r⟩ | ⟨e, r⟩
            · exact absurd e g2
            · exact r
            · rw [g3] at e; exact absurd e (by decide)
            · rw [g3] at e; exact absurd e (by decide)
          obtain ⟨w1, w2, w3⟩ := hq
          rw [c1 w1]
          by_cases g4 : kIs (h (44 + 3 * k) 1) x1 = true
          · rw [if_pos g4]
            simp (decide := true) only [↓reduceIte, ↓r92_0, ↓r92_1, ↓r92_2, ↓r92_5, ↓r92_5n, ↓r92_6, ↓r92_6n, ↓r92_7, ↓r92_7n, ↓r92_10, ↓r92_11, ↓r92_14, ↓r92_17, ↓r92_19, ↓r92_20, ↓r92_20n, ↓r92_21, ↓r92_24, ↓r92_27, ↓r92_29, ↓r92_30, ↓r92_30n, ↓r92_31, ↓r92_34, ↓r92_35, ↓r92_38, ↓r92_38n, ↓r92_39, ↓r92_42, ↓r92_43, ↓r92_46, ↓r92_49, ↓r92_51, ↓r92_52, ↓r92_52n, ↓r92_53, ↓r92_56, ↓r92_56n, ↓r92_57, ↓r92_60, ↓r92_63, Option.toList, List.cons_append, List.nil_append, c5, hc, true_and]
            refine hx _ fun h1 Q e => ?_
            subst e
            rw [m192]
            rw [w2] at g4
            simp (decide := true) only [↓r192_0, ↓r192_1, ↓r192_4, ↓r192_7, ↓r192_8, ↓r192_9, ↓r192_10, ↓r192_13, ↓r192_16, ↓r192_19, ↓r192_21, ↓r192_22, ↓r192_23, ↓r192_26, ↓r192_27, ↓r192_28, ↓r192_31, ↓r192_34, ↓r192_35, ↓r192_36, ↓r192_39, ↓r192_40, ↓r192_41, ↓r192_42, ↓r192_45, ↓r192_46, ↓r192_49, ↓r192_50, ↓r192_51, ↓r192_52, ↓r192_55, ↓r192_58, ↓r192_59, ↓r192_62, ↓r192_63, ↓r192_64, ↓r192_67, ↓r192_69, c190, c106, if_pos g0, if_pos g1, ↓reduceIte, Option.toList, List.cons_append, List.nil_append, zl_67, zl_68, zl_69, zz, zy, if_neg g2, if_pos g3, c125, if_pos g4, w3, true_and]
          · rw [if_neg g4]
            simp (decide := true) only [↓reduceIte, ↓r92_0, ↓r92_1, ↓r92_2, ↓r92_5, ↓r92_5n, ↓r92_6, ↓r92_6n, ↓r92_7, ↓r92_7n, ↓r92_10, ↓r92_11, ↓r92_14, ↓r92_17, ↓r92_19, ↓r92_20, ↓r92_20n, ↓r92_21, ↓r92_24, ↓r92_27, ↓r92_29, ↓r92_30, ↓r92_30n, ↓r92_31, ↓r92_34, ↓r92_35, ↓r92_38, ↓r92_38n, ↓r92_39, ↓r92_42, ↓r92_43, ↓r92_46, ↓r92_49, ↓r92_51, ↓r92_52, ↓r92_52n, ↓r92_53, ↓r92_56, ↓r92_56n, ↓r92_57, ↓r92_60, ↓r92_63, Option.toList, List.cons_append, List.nil_append]
            refine hx _ fun h1 Q e => ?_
            subst e
            rw [m192]
            rw [w2] at g4
            simp (decide := true) only [↓r192_0, ↓r192_1, ↓r192_4, ↓r192_7, ↓r192_8, ↓r192_9, ↓r192_10, ↓r192_13, ↓r192_16, ↓r192_19, ↓r192_21, ↓r192_22, ↓r192_23, ↓r192_26, ↓r192_27, ↓r192_28, ↓r192_31, ↓r192_34, ↓r192_35, ↓r192_36, ↓r192_39, ↓r192_40, ↓r192_41, ↓r192_42, ↓r192_45, ↓r192_46, ↓r192_49, ↓r192_50, ↓r192_51, ↓r192_52, ↓r192_55, ↓r192_58, ↓r192_59, ↓r192_62, ↓r192_63, ↓r192_64, ↓r192_67, ↓r192_69, c190, c106, if_pos g0, if_pos g1, ↓reduceIte, Option.toList, List.cons_append, List.nil_append, zl_67, zl_68, zl_69, zz, zy, if_neg g2, if_pos g3, c125, if_neg g4, true_and]
        · simp only [if_neg g3]
          refine hx _ fun h1 Q e => ?_
          subst e
          rw [m192]
          simp (decide := true) only [↓r192_0, ↓r192_1, ↓r192_4, ↓r192_7, ↓r192_8, ↓r192_9, ↓r192_10, ↓r192_13, ↓r192_16, ↓r192_19, ↓r192_21, ↓r192_22, ↓r192_23, ↓r192_26, ↓r192_27, ↓r192_28, ↓r192_31, ↓r192_34, ↓r192_35, ↓r192_36, ↓r192_39, ↓r192_40, ↓r192_41, ↓r192_42, ↓r192_45, ↓r192_46, ↓r192_49, ↓r192_50, ↓r192_51, ↓r192_52, ↓r192_55, ↓r192_58, ↓r192_59, ↓r192_62, ↓r192_63, ↓r192_64, ↓r192_67, ↓r192_69, c190, c106, if_pos g0, if_pos g1, ↓reduceIte, Option.toList, List.cons_append, List.nil_append, zl_67, zl_68, zl_69, zz, zy, if_neg g2, if_neg g3, true_and]
    · simp (decide := true) only [if_neg g1, ↓reduceIte]
      refine hx _ fun h1 Q e => ?_
      subst e
      rw [m192]
      simp (decide := true) only [↓r192_0, ↓r192_1, ↓r192_4, ↓r192_7, ↓r192_8, ↓r192_9, ↓r192_10, ↓r192_13, ↓r192_16, ↓r192_19, ↓r192_21, ↓r192_22, ↓r192_23, ↓r192_26, ↓r192_27, ↓r192_28, ↓r192_31, ↓r192_34, ↓r192_35, ↓r192_36, ↓r192_39, ↓r192_40, ↓r192_41, ↓r192_42, ↓r192_45, ↓r192_46, ↓r192_49, ↓r192_50, ↓r192_51, ↓r192_52, ↓r192_55, ↓r192_58, ↓r192_59, ↓r192_62, ↓r192_63, ↓r192_64, ↓r192_67, ↓r192_69, c190, c106, if_pos g0, if_neg g1, ↓reduceIte, Option.toList, List.cons_append, List.nil_append, true_and]
  · rw [m92]
    simp (decide := true) only [↓r92_0, ↓r92_1, ↓r92_2, ↓r92_5, ↓r92_5n, ↓r92_6, ↓r92_6n, ↓r92_7, ↓r92_7n, ↓r92_10, ↓r92_11, ↓r92_14, ↓r92_17, ↓r92_19, ↓r92_20, ↓r92_20n, ↓r92_21, ↓r92_24, ↓r92_27, ↓r92_29, ↓r92_30, ↓r92_30n, ↓r92_31, ↓r92_34, ↓r92_35, ↓r92_38, ↓r92_38n, ↓r92_39, ↓r92_42, ↓r92_43, ↓r92_46, ↓r92_49, ↓r92_51, ↓r92_52, ↓r92_52n, ↓r92_53, ↓r92_56, ↓r92_56n, ↓r92_57, ↓r92_60, ↓r92_63, c96n g0, Option.toList, List.cons_append, List.nil_append]
    refine zPo_in rfl rfl ?_
    rw [m192]
    simp (decide := true) only [↓r192_0, ↓r192_1, ↓r192_4, ↓r192_7, ↓r192_8, ↓r192_9, ↓r192_10, ↓r192_13, ↓r192_16, ↓r192_19, ↓r192_21, ↓r192_22, ↓r192_23, ↓r192_26, ↓r192_27, ↓r192_28, ↓r192_31, ↓r192_34, ↓r192_35, ↓r192_36, ↓r192_39, ↓r192_40, ↓r192_41, ↓r192_42, ↓r192_45, ↓r192_46, ↓r192_49, ↓r192_50, ↓r192_51, ↓r192_52, ↓r192_55, ↓r192_58, ↓r192_59, ↓r192_62, ↓r192_63, ↓r192_64, ↓r192_67, ↓r192_69, c190, if_neg g0, ↓reduceIte, Option.toList, List.cons_append, List.nil_append, true_and]
    exact zPq_in rfl (hQ _ _ hR0 rfl rfl)
theorem p_rest : zPair (d + 20) (d + 20) 94 194 [.int x0, .int x1] := by
  intro h Q2 hR hQ
  have hR0 := hR
  obtain ⟨n, m, N, hRN⟩ := hR
  obtain ⟨-, -, -, -, hSl, -⟩ := id hRN
  rw [rSlots_all] at hSl
  by_cases g0 : 0 ≤ x0 ∧ x0 ≤ 4
  · obtain ⟨k, hk, rfl⟩ := hasN (q := 4) (by decide) g0
    have hk5 : k < 5 := by omega
    have hc := zc_so hk5
    obtain ⟨q1, q2⟩ := hSl k hk5
    have hx : ∀ v, (∀ h1 Q, h1 = h → zM (d + 20) 194 [.ref 60, .int (nI k), .int x1] h1 Q = Q (some (.int v)) h) → zPo h (d + 20) 194 [.int (nI k), .int x1] Q2 (some (.int v)) h := by
      intro v e
      refine zPo_in rfl rfl ?_
      rw [e _ _ rfl]
      exact zPq_in rfl (hQ _ _ hR0 rfl rfl)
    have zz := zok_nI hk5 (by omega : 5 < 2 ^ 31)
    have zy : zix (nI k) = k := zix_nI (by omega)
    rw [m94]
    simp (decide := true) only [↓r94_0, ↓r94_1, ↓r94_2, ↓r94_5, ↓r94_5n, ↓r94_6, ↓r94_6n, ↓r94_7, ↓r94_7n, ↓r94_10, ↓r94_12, ↓r94_13, ↓r94_13n, ↓r94_14, ↓r94_17, ↓r94_20, ↓r94_22, ↓r94_23, ↓r94_23n, ↓r94_24, ↓r94_27, ↓r94_28, ↓r94_31, ↓r94_33, ↓r94_34, ↓r94_35, ↓r94_38, ↓r94_41, ↓r94_44, ↓r94_44n, ↓r94_45, ↓r94_48, ↓r94_49, ↓r94_50, c96k hk5, Option.toList, List.cons_append, List.nil_append, true_and, q1, hc]
    by_cases g2 : h 67 k = 0
    · have g2' : ¬ h 67 k = 3 := by rw [g2]; decide
      simp (decide := true) only [if_pos g2, ↓reduceIte]
      refine hx _ fun h1 Q e => ?_
      subst e
      rw [m194]
      simp (decide := true) only [↓r194_0, ↓r194_1, ↓r194_4, ↓r194_7, ↓r194_9, ↓r194_10, ↓r194_11, ↓r194_14, ↓r194_15, ↓r194_16, ↓r194_17, ↓r194_20, ↓r194_21, ↓r194_24, ↓r194_25, ↓r194_26, ↓r194_29, ↓r194_32, ↓r194_35, ↓r194_37, ↓r194_38, ↓r194_39, ↓r194_42, ↓r194_45, ↓r194_48, ↓r194_49, ↓r194_52, ↓r194_53, ↓r194_54, ↓r194_55, ↓r194_56, c190, if_pos g0, ↓reduceIte, Option.toList, List.cons_append, List.nil_append, zl_67, zz, zy, if_neg g2', if_pos g2, true_and]
    · simp (decide := true) only [if_neg g2, ↓reduceIte]
      by_cases g3 : h 67 k = 3
      · simp only [if_pos g3]
        have w : h (44 + 3 * k) 3 = h 68 k := by
          rcases q2 with e | ⟨e, r⟩ | ⟨e, r⟩ | ⟨e, r⟩
          · exact absurd e g2
          · rw [g3] at e; exact absurd e (by decide)
          · rw [g3] at e; exact absurd e (by decide)
          · exact r
        by_cases g4 : x1 = 0
        · simp only [if_pos g4]
          refine hx _ fun h1 Q e => ?_
          subst e
          rw [m194]
          simp (decide := true) only [↓r194_0, ↓r194_1, ↓r194_4, ↓r194_7, ↓r194_9, ↓r194_10, ↓r194_11, ↓r194_14, ↓r194_15, ↓r194_16, ↓r194_17, ↓r194_20, ↓r194_21, ↓r194_24, ↓r194_25, ↓r194_26, ↓r194_29, ↓r194_32, ↓r194_35, ↓r194_37, ↓r194_38, ↓r194_39, ↓r194_42, ↓r194_45, ↓r194_48, ↓r194_49, ↓r194_52, ↓r194_53, ↓r194_54, ↓r194_55, ↓r194_56, c190, if_pos g0, ↓reduceIte, Option.toList, List.cons_append, List.nil_append, zl_67, zz, zy, if_neg g2, if_pos g3, if_pos g4, true_and]
        · simp only [if_neg g4, w, not_false_eq_true, true_and]
          refine ⟨g4, ?_⟩
          refine hx _ fun h1 Q e => ?_
          subst e
          rw [m194]
          simp (decide := true) only [↓r194_0, ↓r194_1, ↓r194_4, ↓r194_7, ↓r194_9, ↓r194_10, ↓r194_11, ↓r194_14, ↓r194_15, ↓r194_16, ↓r194_17, ↓r194_20, ↓r194_21, ↓r194_24, ↓r194_25, ↓r194_26, ↓r194_29, ↓r194_32, ↓r194_35, ↓r194_37, ↓r194_38, ↓r194_39, ↓r194_42, ↓r194_45, ↓r194_48, ↓r194_49, ↓r194_52, ↓r194_53, ↓r194_54, ↓r194_55, ↓r194_56, c190, if_pos g0, ↓reduceIte, Option.toList, List.cons_append, List.nil_append, zl_67, zl_68, zz, zy, if_neg g2, if_pos g3, if_neg g4, g4, true_and, not_false_eq_true]
      · simp only [if_neg g3]
        refine hx _ fun h1 Q e => ?_
        subst e
        rw [m194]
        simp (decide := true) only [↓r194_0, ↓r194_1, ↓r194_4, ↓r194_7, ↓r194_9, ↓r194_10, ↓r194_11, ↓r194_14, ↓r194_15, ↓r194_16, ↓r194_17, ↓r194_20, ↓r194_21, ↓r194_24, ↓r194_25, ↓r194_26, ↓r194_29, ↓r194_32, ↓r194_35, ↓r194_37, ↓r194_38, ↓r194_39, ↓r194_42, ↓r194_45, ↓r194_48, ↓r194_49, ↓r194_52, ↓r194_53, ↓r194_54, ↓r194_55, ↓r194_56, c190, if_pos g0, ↓reduceIte, Option.toList, List.cons_append, List.nil_append, zl_67, zz, zy, if_neg g2, if_neg g3, true_and]
  · rw [m94]
    simp (decide := true) only [↓r94_0, ↓r94_1, ↓r94_2, ↓r94_5, ↓r94_5n, ↓r94_6, ↓r94_6n, ↓r94_7, ↓r94_7n, ↓r94_10, ↓r94_12, ↓r94_13, ↓r94_13n, ↓r94_14, ↓r94_17, ↓r94_20, ↓r94_22, ↓r94_23, ↓r94_23n, ↓r94_24, ↓r94_27, ↓r94_28, ↓r94_31, ↓r94_33, ↓r94_34, ↓r94_35, ↓r94_38, ↓r94_41, ↓r94_44, ↓r94_44n, ↓r94_45, ↓r94_48, ↓r94_49, ↓r94_50, c96n g0, Option.toList, List.cons_append, List.nil_append]
    refine zPo_in rfl rfl ?_
    rw [m194]
    simp (decide := true) only [↓r194_0, ↓r194_1, ↓r194_4, ↓r194_7, ↓r194_9, ↓r194_10, ↓r194_11, ↓r194_14, ↓r194_15, ↓r194_16, ↓r194_17, ↓r194_20, ↓r194_21, ↓r194_24, ↓r194_25, ↓r194_26, ↓r194_29, ↓r194_32, ↓r194_35, ↓r194_37, ↓r194_38, ↓r194_39, ↓r194_42, ↓r194_45, ↓r194_48, ↓r194_49, ↓r194_52, ↓r194_53, ↓r194_54, ↓r194_55, ↓r194_56, c190, if_neg g0, ↓reduceIte, Option.toList, List.cons_append, List.nil_append, true_and]
    exact zPq_in rfl (hQ _ _ hR0 rfl rfl)
theorem p_item : zPair (d + 20) (d + 20) 93 193 [.int x0, .int x1] := by
  intro h Q2 hR hQ
  have hR0 := hR
  obtain ⟨n, m, N, hRN⟩ := hR
  obtain ⟨-, -, -, -, hSl, -⟩ := id hRN
  rw [rSlots_all] at hSl
  by_cases g0 : 0 ≤ x0 ∧ x0 ≤ 4
  · obtain ⟨k, hk, rfl⟩ := hasN (q := 4) (by decide) g0
    have hk5 : k < 5 := by omega
    have hc := zc_so hk5
    have hs := zsh_s hk5
    have hsc := zc_h hs
    obtain ⟨q1, q2⟩ := hSl k hk5
    have hx : ∀ v, (∀ h1 Q, h1 = h → zM (d + 20) 193 [.ref 60, .int (nI k), .int x1] h1 Q = Q (some (.int v)) h) → zPo h (d + 20) 193 [.int (nI k), .int x1] Q2 (some (.int v)) h := by
      intro v e
      refine zPo_in rfl rfl ?_
      rw [e _ _ rfl]
      exact zPq_in rfl (hQ _ _ hR0 rfl rfl)
    have zz := zok_nI hk5 (by omega : 5 < 2 ^ 31)
    have zy : zix (nI k) = k := zix_nI (by omega)
    have e45 : 44 + 3 * k + 1 = 45 + 3 * k := by omega
    rw [m93]
    simp (decide := true) only [↓r93_0, ↓r93_1, ↓r93_2, ↓r93_5, ↓r93_5n, ↓r93_6, ↓r93_6n, ↓r93_7, ↓r93_7n, ↓r93_10, ↓r93_12, ↓r93_13, ↓r93_13n, ↓r93_14, ↓r93_17, ↓r93_20, ↓r93_22, ↓r93_23, ↓r93_23n, ↓r93_24, ↓r93_27, ↓r93_28, ↓r93_31, ↓r93_33, ↓r93_34, ↓r93_34n, ↓r93_35, ↓r93_38, ↓r93_39, ↓r93_42, ↓r93_45, ↓r93_48, ↓r93_49, ↓r93_49n, ↓r93_50, ↓r93_53, ↓r93_54, ↓r93_57, ↓r93_60, ↓r93_60n, ↓r93_61, ↓r93_64, ↓r93_67, ↓r93_68, ↓r93_69, ↓r93_72, ↓r93_74, c96k hk5, Option.toList, List.cons_append, List.nil_append, true_and, q1, hc, e45, c33 hs, hsc]
    by_cases g2 : h 67 k = 0
    · have g2' : ¬ h 67 k = 2 := by rw [g2]; decide
      simp (decide := true) only [if_pos g2, ↓reduceIte]
      refine hx _ fun h1 Q e => ?_
      subst e
      rw [m193]
      simp (decide := true) only [↓r193_0, ↓r193_1, ↓r193_4, ↓r193_7, ↓r193_9, ↓r193_10, ↓r193_11, ↓r193_14, ↓r193_15, ↓r193_16, ↓r193_17, ↓r193_20, ↓r193_21, ↓r193_24, ↓r193_25, ↓r193_26, ↓r193_29, ↓r193_32, ↓r193_35, ↓r193_37, ↓r193_38, ↓r193_39, ↓r193_40, ↓r193_41, ↓r193_42, ↓r193_45, ↓r193_46, ↓r193_47, ↓r193_48, ↓r193_49, ↓r193_50, ↓r193_53, ↓r193_56, ↓r193_59, ↓r193_60, ↓r193_61, ↓r193_64, ↓r193_66, ↓r193_67, ↓r193_68, ↓r193_69, ↓r193_70, ↓r193_71, ↓r193_72, ↓r193_73, ↓r193_75, ↓r193_78, ↓r193_80, ↓r193_83, ↓r193_84, c190, if_pos g0, ↓reduceIte, Option.toList, List.cons_append, List.nil_append, zl_67, zz, zy, if_neg g2', if_pos g2, true_and]
    · simp (decide := true) only [if_neg g2, ↓reduceIte]
      by_cases g3 : h 67 k = 2
      · simp only [if_pos g3]
        have w : (∃ z, z ≤ 24 ∧ h 70 k = nI z ∧ h (45 + 3 * k) 1 = nI z) ∧ rShEnc (h (46 + 3 * k)) (h 71) k := by
          rcases q2 with e | ⟨e, r⟩ | ⟨e, r⟩ | ⟨e, r⟩
          · exact absurd e g2
          · rw [g3] at e; exact absurd e (by decide)
          · exact r
          · rw [g3] at e; exact absurd e (by decide)
        obtain ⟨⟨z, hz, w1, w2⟩, w3⟩ := w
        simp only [w2]
        by_cases g4 : 0 ≤ x1 ∧ x1 ≤ nI z - 1
        · obtain ⟨i, hi, rfl⟩ := hasT (by omega : z ≤ 24) g4
          have en : shEnc (h (46 + 3 * k) i) (h 71 (24 * k + i)) := w3 i (by omega)
          have c35' := fun (Q' : Option Value → zH → Prop) => c35k (d := d + 16) (Q := Q') hs w2 hz hi
          rw [show 45 + 3 * k + 1 = 46 + 3 * k by omega] at c35'
          have zl46 : ∀ {K : Int32 → Prop}, zal (46 + 3 * k) (nI i) h K = (zok (nI i) 24 ∧ K (h (46 + 3 * k) (zix (nI i)))) := by
            intro K
            have := zl_h (x := nI i) (h := h) (k := K) hs
            rwa [show 45 + 3 * k + 1 = 46 + 3 * k by omega] at this
          simp (decide := true) only [if_pos g4, ↓reduceIte, hc, e45, true_and, c35', ↓r93_0, ↓r93_1, ↓r93_2, ↓r93_5, ↓r93_5n, ↓r93_6, ↓r93_6n, ↓r93_7, ↓r93_7n, ↓r93_10, ↓r93_12, ↓r93_13, ↓r93_13n, ↓r93_14, ↓r93_17, ↓r93_20, ↓r93_22, ↓r93_23, ↓r93_23n, ↓r93_24, ↓r93_27, ↓r93_28, ↓r93_31, ↓r93_33, ↓r93_34, ↓r93_34n, ↓r93_35, ↓r93_38, ↓r93_39, ↓r93_42, ↓r93_45, ↓r93_48, ↓r93_49, ↓r93_49n, ↓r93_50, ↓r93_53, ↓r93_54, ↓r93_57, ↓r93_60, ↓r93_60n, ↓r93_61, ↓r93_64, ↓r93_67, ↓r93_68, ↓r93_69, ↓r93_72, ↓r93_74, Option.toList, List.cons_append, List.nil_append]
          by_cases g5 : h (46 + 3 * k) i = -2147483648
          · simp (decide := true) only [if_pos g5, ↓reduceIte]
            refine hx _ fun h1 Q e => ?_
            subst e
            rw [m193]
            simp (decide := true) only [↓r193_0, ↓r193_1, ↓r193_4, ↓r193_7, ↓r193_9, ↓r193_10, ↓r193_11, ↓r193_14, ↓r193_15, ↓r193_16, ↓r193_17, ↓r193_20, ↓r193_21, ↓r193_24, ↓r193_25, ↓r193_26, ↓r193_29, ↓r193_32, ↓r193_35, ↓r193_37, ↓r193_38, ↓r193_39, ↓r193_40, ↓r193_41, ↓r193_42, ↓r193_45, ↓r193_46, ↓r193_47, ↓r193_48, ↓r193_49, ↓r193_50, ↓r193_53, ↓r193_56, ↓r193_59, ↓r193_60, ↓r193_61, ↓r193_64, ↓r193_66, ↓r193_67, ↓r193_68, ↓r193_69, ↓r193_70, ↓r193_71, ↓r193_72, ↓r193_73, ↓r193_75, ↓r193_78, ↓r193_80, ↓r193_83, ↓r193_84, c190, c106, if_pos g0, ↓reduceIte, Option.toList, List.cons_append, List.nil_append, zl_67, zl_70, zl_71, zz, zy, if_neg g2, if_pos g3, w1, if_pos g4, true_and, x24, zok_nI (by omega : 24 * k + i < 120) (by omega), zix_nI (by omega : 24 * k + i < 2 ^ 31), if_pos ((shEnc_iff en).mp g5)]
          · have g6 : ¬ h 71 (24 * k + i) = -1000000005 := fun q => g5 ((shEnc_iff en).mpr q)
            have e2 : h 71 (24 * k + i) = h (46 + 3 * k) i := by
              rcases en with ⟨a, _⟩ | ⟨_, b, _⟩
              · exact absurd a g6
              · exact b.symm
            simp (decide := true) only [if_neg g5, ↓reduceIte, hc, e45, hsc, true_and, show 45 + 3 * k + 1 = 46 + 3 * k by omega, zl46, zok_nI (by omega : i < 24) (by omega), zix_nI (by omega : i < 2 ^ 31), ↓r93_0, ↓r93_1, ↓r93_2, ↓r93_5, ↓r93_5n, ↓r93_6, ↓r93_6n, ↓r93_7, ↓r93_7n, ↓r93_10, ↓r93_12, ↓r93_13, ↓r93_13n, ↓r93_14, ↓r93_17, ↓r93_20, ↓r93_22, ↓r93_23, ↓r93_23n, ↓r93_24, ↓r93_27, ↓r93_28, ↓r93_31, ↓r93_33, ↓r93_34, ↓r93_34n, ↓r93_35, ↓r93_38, ↓r93_39, ↓r93_42, ↓r93_45, ↓r93_48, ↓r93_49, ↓r93_49n, ↓r93_50, ↓r93_53, ↓r93_54, ↓r93_57, ↓r93_60, ↓r93_60n, ↓r93_61, ↓r93_64, ↓r93_67, ↓r93_68, ↓r93_69, ↓r93_72, ↓r93_74]
            refine hx _ fun h1 Q e => ?_
            subst e
            rw [m193]
            simp (decide := true) only [↓r193_0, ↓r193_1, ↓r193_4, ↓r193_7, ↓r193_9, ↓r193_10, ↓r193_11, ↓r193_14, ↓r193_15, ↓r193_16, ↓r193_17, ↓r193_20, ↓r193_21, ↓r193_24, ↓r193_25, ↓r193_26, ↓r193_29, ↓r193_32, ↓r193_35, ↓r193_37, ↓r193_38, ↓r193_39, ↓r193_40, ↓r193_41, ↓r193_42, ↓r193_45, ↓r193_46, ↓r193_47, ↓r193_48, ↓r193_49, ↓r193_50, ↓r193_53, ↓r193_56, ↓r193_59, ↓r193_60, ↓r193_61, ↓r193_64, ↓r193_66, ↓r193_67, ↓r193_68, ↓r193_69, ↓r193_70, ↓r193_71, ↓r193_72, ↓r193_73, ↓r193_75, ↓r193_78, ↓r193_80, ↓r193_83, ↓r193_84, c190, c106, if_pos g0, ↓reduceIte, Option.toList, List.cons_append, List.nil_append, zl_67, zl_70, zl_71, zz, zy, if_neg g2, if_pos g3, w1, if_pos g4, true_and, x24, zok_nI (by omega : 24 * k + i < 120) (by omega), zix_nI (by omega : 24 * k + i < 2 ^ 31), if_neg g6, e2]
            rw [if_neg (by rw [← e2]; exact g6)]
        · simp (decide := true) only [if_neg g4, ↓reduceIte]
          refine hx _ fun h1 Q e => ?_
          subst e
          rw [m193]
          simp (decide := true) only [↓r193_0, ↓r193_1, ↓r193_4, ↓r193_7, ↓r193_9, ↓r193_10, ↓r193_11, ↓r193_14, ↓r193_15, ↓r193_16, ↓r193_17, ↓r193_20, ↓r193_21, ↓r193_24, ↓r193_25, ↓r193_26, ↓r193_29, ↓r193_32, ↓r193_35, ↓r193_37, ↓r193_38, ↓r193_39, ↓r193_40, ↓r193_41, ↓r193_42, ↓r193_45, ↓r193_46, ↓r193_47, ↓r193_48, ↓r193_49, ↓r193_50, ↓r193_53, ↓r193_56, ↓r193_59, ↓r193_60, ↓r193_61, ↓r193_64, ↓r193_66, ↓r193_67, ↓r193_68, ↓r193_69, ↓r193_70, ↓r193_71, ↓r193_72, ↓r193_73, ↓r193_75, ↓r193_78, ↓r193_80, ↓r193_83, ↓r193_84, c190, c106, if_pos g0, ↓reduceIte, Option.toList, List.cons_append, List.nil_append, zl_67, zl_70, zz, zy, if_neg g2, if_pos g3, w1, if_neg g4, true_and]
      · simp only [if_neg g3]
        refine hx _ fun h1 Q e => ?_
        subst e
        rw [m193]
        simp (decide := true) only [↓r193_0, ↓r193_1, ↓r193_4, ↓r193_7, ↓r193_9, ↓r193_10, ↓r193_11, ↓r193_14, ↓r193_15, ↓r193_16, ↓r193_17, ↓r193_20, ↓r193_21, ↓r193_24, ↓r193_25, ↓r193_26, ↓r193_29, ↓r193_32, ↓r193_35, ↓r193_37, ↓r193_38, ↓r193_39, ↓r193_40, ↓r193_41, ↓r193_42, ↓r193_45, ↓r193_46, ↓r193_47, ↓r193_48, ↓r193_49, ↓r193_50, ↓r193_53, ↓r193_56, ↓r193_59, ↓r193_60, ↓r193_61, ↓r193_64, ↓r193_66, ↓r193_67, ↓r193_68, ↓r193_69, ↓r193_70, ↓r193_71, ↓r193_72, ↓r193_73, ↓r193_75, ↓r193_78, ↓r193_80, ↓r193_83, ↓r193_84, c190, if_pos g0, ↓reduceIte, Option.toList, List.cons_append, List.nil_append, zl_67, zz, zy, if_neg g2, if_neg g3, true_and]
  · rw [m93]
    simp (decide := true) only [↓r93_0, ↓r93_1, ↓r93_2, ↓r93_5, ↓r93_5n, ↓r93_6, ↓r93_6n, ↓r93_7, ↓r93_7n, ↓r93_10, ↓r93_12, ↓r93_13, ↓r93_13n, ↓r93_14, ↓r93_17, ↓r93_20, ↓r93_22, ↓r93_23, ↓r93_23n, ↓r93_24, ↓r93_27, ↓r93_28, ↓r93_31, ↓r93_33, ↓r93_34, ↓r93_34n, ↓r93_35, ↓r93_38, ↓r93_39, ↓r93_42, ↓r93_45, ↓r93_48, ↓r93_49, ↓r93_49n, ↓r93_50, ↓r93_53, ↓r93_54, ↓r93_57, ↓r93_60, ↓r93_60n, ↓r93_61, ↓r93_64, ↓r93_67, ↓r93_68, ↓r93_69, ↓r93_72, ↓r93_74, c96n g0, Option.toList, List.cons_append, List.nil_append]
    refine zPo_in rfl rfl ?_
    rw [m193]
    simp (decide := true) only [↓r193_0, ↓r193_1, ↓r193_4, ↓r193_7, ↓r193_9, ↓r193_10, ↓r193_11, ↓r193_14, ↓r193_15, ↓r193_16, ↓r193_17, ↓r193_20, ↓r193_21, ↓r193_24, ↓r193_25, ↓r193_26, ↓r193_29, ↓r193_32, ↓r193_35, ↓r193_37, ↓r193_38, ↓r193_39, ↓r193_40, ↓r193_41, ↓r193_42, ↓r193_45, ↓r193_46, ↓r193_47, ↓r193_48, ↓r193_49, ↓r193_50, ↓r193_53, ↓r193_56, ↓r193_59, ↓r193_60, ↓r193_61, ↓r193_64, ↓r193_66, ↓r193_67, ↓r193_68, ↓r193_69, ↓r193_70, ↓r193_71, ↓r193_72, ↓r193_73, ↓r193_75, ↓r193_78, ↓r193_80, ↓r193_83, ↓r193_84, c190, if_neg g0, ↓reduceIte, Option.toList, List.cons_append, List.nil_append, true_and]
    exact zPq_in rfl (hQ _ _ hR0 rfl rfl)
end
