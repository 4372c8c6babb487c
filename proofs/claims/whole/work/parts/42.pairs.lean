section
variable {d : Nat} {x0 x1 x2 : Int32} {h h' : zH} {n m N n' m' k : Nat}
theorem zRel_keep (hR : zRelN h n m N) (e : ∀ c, c ≠ 6 → c ≠ 75 → c ≠ 76 → h' c = h c) : zRelN h' n m N := by
  obtain ⟨⟨hSt, hm⟩, hu, hI, hSh, hSl, hNu, hTa⟩ := hR
  have e0 : h' 0 = h 0 := e _ (by omega) (by omega) (by omega)
  have e60 : h' 60 = h 60 := e _ (by omega) (by omega) (by omega)
  refine ⟨⟨?_, hm⟩, by rw [e60]; exact hu, rImg_keep hI (fun c' hc' => e _ (by omega) (by omega) (by omega)) (by rw [e0]) (by rw [e60]), rSheets_keep hSh (fun c' hc' => e _ (by omega) (by omega) (by omega)), rSlots_keep hSl (fun c' hc' => e _ (by omega) (by omega) (by omega)), ?_, ?_⟩
  · rw [e 61 (by omega) (by omega) (by omega)]
    exact zSt_keep hSt (fun j hj => e _ (by omega) (by omega) (by omega)) (fun c' a b => e _ (by omega) (by omega) (by omega))
  · rw [e0, e60, e 59 (by omega) (by omega) (by omega), e 78 (by omega) (by omega) (by omega)]; exact hNu
  · rw [e60, e 7 (by omega) (by omega) (by omega), e 8 (by omega) (by omega) (by omega), e 74 (by omega) (by omega) (by omega)]; exact hTa
theorem zRel_st (hR : zRelN h n m N) (e : ∀ c, ¬ (10 ≤ c ∧ c ≤ 17) → c ≠ 61 → c ≠ 6 → c ≠ 75 → c ≠ 76 → h' c = h c) (hS' : zSt h' 10 (h' 61) n' m' N) (hm' : m' ≤ 9999) : zRelN h' n' m' N := by
  obtain ⟨⟨hSt, hm⟩, hu, hI, hSh, hSl, hNu, hTa⟩ := hR
  have e0 : h' 0 = h 0 := e _ (by omega) (by omega) (by omega) (by omega) (by omega)
  have e60 : h' 60 = h 60 := e _ (by omega) (by omega) (by omega) (by omega) (by omega)
  refine ⟨⟨hS', hm'⟩, by rw [e60]; exact hu, rImg_keep hI (fun c' hc' => e _ (by omega) (by omega) (by omega) (by omega) (by omega)) (by rw [e0]) (by rw [e60]), rSheets_keep hSh (fun c' hc' => e _ (by omega) (by omega) (by omega) (by omega) (by omega)), rSlots_keep hSl (fun c' hc' => e _ (by omega) (by omega) (by omega) (by omega) (by omega)), ?_, ?_⟩
  · rw [e0, e60, e 59 (by omega) (by omega) (by omega) (by omega) (by omega), e 78 (by omega) (by omega) (by omega) (by omega) (by omega)]; exact hNu
  · rw [e60, e 7 (by omega) (by omega) (by omega) (by omega) (by omega), e 8 (by omega) (by omega) (by omega) (by omega) (by omega), e 74 (by omega) (by omega) (by omega) (by omega) (by omega)]; exact hTa
theorem hasK (h10 : n ≤ 10) (g : 0 ≤ x0 ∧ x0 ≤ nI n - 1) : ∃ k, k < n ∧ x0 = nI k := by
  obtain ⟨j, hj, e⟩ := nI_of (Int32.not_lt.mpr g.1)
  subst e
  have h1 : 0 < n := by
    rcases Nat.eq_zero_or_pos n with z | z
    · subst z
      exfalso
      have := g.2
      have h2 := g.1
      rw [nI_0] at this
      grind
    · exact z
  have h2 := g.2
  rw [nI_s1 h1, nI_leI hj (by omega)] at h2
  exact ⟨j, by omega, rfl⟩
theorem hasI (hk : k < n) (h10 : n ≤ 10) : 0 ≤ nI k ∧ nI k ≤ nI n - 1 := ⟨nI_pos' (by omega), by rw [nI_s1 (by omega)]; exact nI_le (by omega) (by omega)⟩
theorem p_as : zPair (d + 20) (d + 20) 60 126 [.int x0, .int x1] := by
  intro h Q2 hR hQ
  have hR0 := hR
  obtain ⟨n, m, N, ⟨hSt, hm⟩, hu, hI, hSh, hSl, hNu, hTa⟩ := hR
  obtain ⟨⟨v0, v1, v2, v3, v4, v5⟩, -, hl⟩ := hSt.1
  obtain ⟨⟨hn, h10⟩, hld, -⟩ := hSt.2.1
  have hn' : h 10 1 = nI n := v0.trans hn
  have e0 : Int32.toInt64 0 = (0 : Int32).toInt64 := rfl
  rw [m60]
  simp only [↓r60_0, ↓r60_1, ↓r60_4, ↓r60_5, ↓r60_8, ↓r60_11, ↓r60_12, ↓r60_15, ↓r60_18, ↓r60_20, ↓r60_21, ↓r60_22, ↓r60_25, ↓r60_28, ↓r60_29, ↓r60_30, ↓r60_31, ↓r60_34, ↓r60_37, ↓r60_38, ↓r60_41, ↓r60_44, ↓r60_45, ↓r60_46, ↓r60_49, ↓r60_51, zc_10, zc_18, zc_26, zc_0, zc_1, zc_7, zc_60, Nat.reduceAdd, true_and, c37 zst10, hn', Option.toList, List.cons_append, List.nil_append]
  by_cases g : 0 ≤ x0 ∧ x0 ≤ nI n - 1
  · obtain ⟨k, hk, rfl⟩ := hasK h10 g
    obtain ⟨l0, l1, l2, l3, l4⟩ := hl k (by omega)
    simp only [if_pos g, c0, Option.toList, List.cons_append, List.nil_append, ↓r60_0, ↓r60_1, ↓r60_4, ↓r60_5, ↓r60_8, ↓r60_11, ↓r60_12, ↓r60_15, ↓r60_18, ↓r60_20, ↓r60_21, ↓r60_22, ↓r60_25, ↓r60_28, ↓r60_29, ↓r60_30, ↓r60_31, ↓r60_34, ↓r60_37, ↓r60_38, ↓r60_41, ↓r60_44, ↓r60_45, ↓r60_46, ↓r60_49, ↓r60_51]
    rw [if_neg (by decide)]
    by_cases g2 : 0 ≤ x1 ∧ x1 ≤ 5
    · simp only [if_pos g2, Option.toList, List.cons_append, List.nil_append, ↓r60_0, ↓r60_1, ↓r60_4, ↓r60_5, ↓r60_8, ↓r60_11, ↓r60_12, ↓r60_15, ↓r60_18, ↓r60_20, ↓r60_21, ↓r60_22, ↓r60_25, ↓r60_28, ↓r60_29, ↓r60_30, ↓r60_31, ↓r60_34, ↓r60_37, ↓r60_38, ↓r60_41, ↓r60_44, ↓r60_45, ↓r60_46, ↓r60_49, ↓r60_51, zc_10, zc_18, zc_26, zc_0, zc_1, zc_7, zc_60, Nat.reduceAdd, true_and, zl_11, zl_12, zok_nI (by omega : k < 10) (by omega), zix_nI (by omega : k < 2 ^ 31)]
      rw [if_neg (by decide), c1 (by rw [l0]; exact (hld k hk).1), l0]
      by_cases g3 : kIs (h 61 (12 + 5 * k + 0)) x1 = true
      · simp only [if_pos g3, Option.toList, List.cons_append, List.nil_append, ↓r60_0, ↓r60_1, ↓r60_4, ↓r60_5, ↓r60_8, ↓r60_11, ↓r60_12, ↓r60_15, ↓r60_18, ↓r60_20, ↓r60_21, ↓r60_22, ↓r60_25, ↓r60_28, ↓r60_29, ↓r60_30, ↓r60_31, ↓r60_34, ↓r60_37, ↓r60_38, ↓r60_41, ↓r60_44, ↓r60_45, ↓r60_46, ↓r60_49, ↓r60_51]
        rw [if_neg (by decide)]
        simp only [↓r60_0, ↓r60_1, ↓r60_4, ↓r60_5, ↓r60_8, ↓r60_11, ↓r60_12, ↓r60_15, ↓r60_18, ↓r60_20, ↓r60_21, ↓r60_22, ↓r60_25, ↓r60_28, ↓r60_29, ↓r60_30, ↓r60_31, ↓r60_34, ↓r60_37, ↓r60_38, ↓r60_41, ↓r60_44, ↓r60_45, ↓r60_46, ↓r60_49, ↓r60_51, zc_10, zc_18, zc_26, zc_0, zc_1, zc_7, zc_60, Nat.reduceAdd, true_and, zl_12, zok_nI (by omega : k < 10) (by omega), zix_nI (by omega : k < 2 ^ 31), l1]
        refine zPo_in rfl rfl ?_
        rw [m126]
        simp only [↓r126_0, ↓r126_1, ↓r126_2, ↓r126_5, ↓r126_8, ↓r126_9, ↓r126_10, ↓r126_11, ↓r126_14, ↓r126_17, ↓r126_20, ↓r126_22, ↓r126_23, ↓r126_24, ↓r126_25, ↓r126_26, ↓r126_29, ↓r126_30, ↓r126_33, ↓r126_36, ↓r126_37, ↓r126_38, ↓r126_39, ↓r126_42, ↓r126_45, ↓r126_47, c115, hn, if_pos g, c106, if_pos g2, c113_0 (by omega : k < 10), c113_1 (by omega : k < 10), c125, if_pos g3, Option.toList, List.cons_append, List.nil_append]
        rw [if_neg (by decide), if_neg (by decide), if_neg (by decide)]
        exact zPq_in rfl (hQ _ _ hR0 rfl rfl)
      · simp only [if_neg g3, Option.toList, List.cons_append, List.nil_append, ↓r60_0, ↓r60_1, ↓r60_4, ↓r60_5, ↓r60_8, ↓r60_11, ↓r60_12, ↓r60_15, ↓r60_18, ↓r60_20, ↓r60_21, ↓r60_22, ↓r60_25, ↓r60_28, ↓r60_29, ↓r60_30, ↓r60_31, ↓r60_34, ↓r60_37, ↓r60_38, ↓r60_41, ↓r60_44, ↓r60_45, ↓r60_46, ↓r60_49, ↓r60_51, if_true]
        refine zPo_in rfl rfl ?_
        rw [m126]
        simp only [↓r126_0, ↓r126_1, ↓r126_2, ↓r126_5, ↓r126_8, ↓r126_9, ↓r126_10, ↓r126_11, ↓r126_14, ↓r126_17, ↓r126_20, ↓r126_22, ↓r126_23, ↓r126_24, ↓r126_25, ↓r126_26, ↓r126_29, ↓r126_30, ↓r126_33, ↓r126_36, ↓r126_37, ↓r126_38, ↓r126_39, ↓r126_42, ↓r126_45, ↓r126_47, c115, hn, if_pos g, c106, if_pos g2, c113_0 (by omega : k < 10), c113_1 (by omega : k < 10), c125, if_neg g3, Option.toList, List.cons_append, List.nil_append, if_true]
        rw [if_neg (by decide), if_neg (by decide)]
        exact zPq_in rfl (hQ _ _ hR0 rfl rfl)
    · simp only [if_neg g2, Option.toList, List.cons_append, List.nil_append, ↓r60_0, ↓r60_1, ↓r60_4, ↓r60_5, ↓r60_8, ↓r60_11, ↓r60_12, ↓r60_15, ↓r60_18, ↓r60_20, ↓r60_21, ↓r60_22, ↓r60_25, ↓r60_28, ↓r60_29, ↓r60_30, ↓r60_31, ↓r60_34, ↓r60_37, ↓r60_38, ↓r60_41, ↓r60_44, ↓r60_45, ↓r60_46, ↓r60_49, ↓r60_51, if_true]
      refine zPo_in rfl rfl ?_
      rw [m126]
      simp only [↓r126_0, ↓r126_1, ↓r126_2, ↓r126_5, ↓r126_8, ↓r126_9, ↓r126_10, ↓r126_11, ↓r126_14, ↓r126_17, ↓r126_20, ↓r126_22, ↓r126_23, ↓r126_24, ↓r126_25, ↓r126_26, ↓r126_29, ↓r126_30, ↓r126_33, ↓r126_36, ↓r126_37, ↓r126_38, ↓r126_39, ↓r126_42, ↓r126_45, ↓r126_47, c115, hn, if_pos g, c106, if_neg g2, Option.toList, List.cons_append, List.nil_append, if_true]
      rw [if_neg (by decide)]
      exact zPq_in rfl (hQ _ _ hR0 rfl rfl)
  · simp only [if_neg g, if_true]
    refine zPo_in rfl rfl ?_
    rw [m126]
    simp only [↓r126_0, ↓r126_1, ↓r126_2, ↓r126_5, ↓r126_8, ↓r126_9, ↓r126_10, ↓r126_11, ↓r126_14, ↓r126_17, ↓r126_20, ↓r126_22, ↓r126_23, ↓r126_24, ↓r126_25, ↓r126_26, ↓r126_29, ↓r126_30, ↓r126_33, ↓r126_36, ↓r126_37, ↓r126_38, ↓r126_39, ↓r126_42, ↓r126_45, ↓r126_47, c115, hn, if_neg g, Option.toList, List.cons_append, List.nil_append, if_true]
    exact zPq_in rfl (hQ _ _ hR0 rfl rfl)
theorem zV10 {s : Nat → Int32} (hV : zV h 10 s) (hk : k < 10) : h 11 k = s (12 + 5 * k + 0) ∧ h 12 k = s (12 + 5 * k + 1) ∧ h 13 k = s (12 + 5 * k + 2) ∧ h 14 k = s (12 + 5 * k + 3) ∧ h 15 k = s (12 + 5 * k + 4) := hV.2.2 k hk
theorem c123k (hk : k < 10) {Q : Option Value → zH → Prop} : zM (d + 2) 123 [.ref 60, .int (nI k)] h Q = Q (some (.int (kWorth (h 61 (12 + 5 * k + 0)) (h 61 (12 + 5 * k + 1))))) h := by
  rw [c123]
  have e1 : 12 + 5 * nI k + 1 = nI (12 + 5 * k + 1) := kix k 1
  have e0 : 12 + 5 * nI k + 0 = nI (12 + 5 * k + 0) := kix k 0
  simp only [e1, e0, zok_nI (by omega : 12 + 5 * k + 1 < 3062) (by omega), zok_nI (by omega : 12 + 5 * k + 0 < 3062) (by omega), zix_nI (by omega : 12 + 5 * k + 1 < 2 ^ 31), zix_nI (by omega : 12 + 5 * k + 0 < 2 ^ 31), true_and]
theorem sw9 (x : Int32) : x = 0 ∨ x = 1 ∨ x = 2 ∨ x = 3 ∨ x = 4 ∨ x = 5 ∨ x = 6 ∨ x = 7 ∨ x = 8 ∨ (¬ x = 0 ∧ ¬ x = 1 ∧ ¬ x = 2 ∧ ¬ x = 3 ∧ ¬ x = 4 ∧ ¬ x = 5 ∧ ¬ x = 6 ∧ ¬ x = 7 ∧ ¬ x = 8) := by
  by_cases h0 : x = 0
  · exact Or.inl h0
  by_cases h1 : x = 1
  · simp only [h1, true_or, or_true]
  by_cases h2 : x = 2
  · simp only [h2, true_or, or_true]
  by_cases h3 : x = 3
  · simp only [h3, true_or, or_true]
  by_cases h4 : x = 4
  · simp only [h4, true_or, or_true]
  by_cases h5 : x = 5
  · simp only [h5, true_or, or_true]
  by_cases h6 : x = 6
  · simp only [h6, true_or, or_true]
  by_cases h7 : x = 7
  · simp only [h7, true_or, or_true]
  by_cases h8 : x = 8
  · simp only [h8, true_or, or_true]
  simp only [h0, h1, h2, h3, h4, h5, h6, h7, h8, not_false_eq_true, true_and, and_true, or_true]
theorem p_told : zPair (d + 20) (d + 20) 59 124 [.int x0, .int x1] := by
  intro h Q2 hR hQ
  have hR0 := hR
  obtain ⟨n, m, N, hRN⟩ := hR
  obtain ⟨⟨hSt, hm⟩, hu, hI, hSh, hSl, hNu, hTa⟩ := id hRN
  obtain ⟨⟨v0, v1, v2, v3, v4, v5⟩, ⟨u0, u1, u2, u3, u4, u5⟩, hl⟩ := hSt.1
  obtain ⟨⟨hn, h10⟩, hld, -⟩ := hSt.2.1
  obtain ⟨hTC, hTR⟩ := zSt_tau hSt
  have hn' : h 10 1 = nI n := v0.trans hn
  rw [m59]
  simp only [↓r59_0, ↓r59_1, ↓r59_4, ↓r59_5, ↓r59_8, ↓r59_11, ↓r59_13, ↓r59_14, ↓r59_64, ↓r59_65, ↓r59_68, ↓r59_71, ↓r59_72, ↓r59_73, ↓r59_74, ↓r59_75, ↓r59_78, ↓r59_81, ↓r59_82, ↓r59_83, ↓r59_84, ↓r59_85, ↓r59_88, ↓r59_91, ↓r59_92, ↓r59_93, ↓r59_94, ↓r59_95, ↓r59_98, ↓r59_101, ↓r59_102, ↓r59_103, ↓r59_104, ↓r59_105, ↓r59_108, ↓r59_111, ↓r59_112, ↓r59_113, ↓r59_114, ↓r59_115, ↓r59_118, ↓r59_119, ↓r59_122, ↓r59_123, ↓r59_124, ↓r59_127, ↓r59_130, ↓r59_131, ↓r59_132, ↓r59_135, ↓r59_136, ↓r59_137, ↓r59_140, ↓r59_143, ↓r59_144, ↓r59_145, ↓r59_146, ↓r59_149, ↓r59_152, ↓r59_153, ↓r59_154, ↓r59_157, ↓r59_158, ↓r59_159, ↓r59_162, ↓r59_165, ↓r59_166, ↓r59_167, ↓r59_168, ↓r59_171, ↓r59_174, ↓r59_175, ↓r59_176, ↓r59_179, ↓r59_180, ↓r59_182, zc_10, zc_18, zc_26, zc_0, zc_1, zc_7, zc_60, Nat.reduceAdd, true_and, c37 zst10, hn', Option.toList, List.cons_append, List.nil_append]
  by_cases g : 0 ≤ x0 ∧ x0 ≤ nI n - 1
  · obtain ⟨k, hk, rfl⟩ := hasK h10 g
    obtain ⟨l0, l1, l2, l3, l4⟩ := zV10 hSt.1 (by omega : k < 10)
    have hk1 := hld k hk
    simp only [if_pos g, Option.toList, List.cons_append, List.nil_append]
    rw [if_neg (by decide)]
    have key : ∀ (h1 : zH) (v : Int32), h1 84 = h 84 → h1 85 = h 85 → h1 61 = h 61 → (∀ c, c ≠ 6 → c ≠ 75 → c ≠ 76 → h1 c = h c) → (zR (d + 19) 124 (zPq v Q2) 12 [some (.ref 60), some (.int (nI k)), some (.int x1)] [.int x1] h1) → zPo h (d + 20) 124 [.int (nI k), .int x1] Q2 (some (.int v)) h1 := by
      intro h1 v a b c e z
      refine zPo_in a b ?_
      rw [m124]
      simp only [↓r124_0, ↓r124_1, ↓r124_2, ↓r124_5, ↓r124_8, ↓r124_10, ↓r124_11, ↓r124_64, ↓r124_65, ↓r124_66, ↓r124_67, ↓r124_70, ↓r124_71, ↓r124_72, ↓r124_73, ↓r124_76, ↓r124_77, ↓r124_78, ↓r124_79, ↓r124_82, ↓r124_83, ↓r124_84, ↓r124_85, ↓r124_88, ↓r124_89, ↓r124_90, ↓r124_91, ↓r124_94, ↓r124_95, ↓r124_97, c115, c, hn, if_pos g, Option.toList, List.cons_append, List.nil_append]
      rw [if_neg (by decide)]
      exact z
    rcases sw9 x1 with rfl | rfl | rfl | rfl | rfl | rfl | rfl | rfl | rfl | ⟨n0, n1, n2, n3, n4, n5, n6, n7, n8⟩
    · simp (decide := true) only [↓reduceIte, ↓r59_0, ↓r59_1, ↓r59_4, ↓r59_5, ↓r59_8, ↓r59_11, ↓r59_13, ↓r59_14, ↓r59_15, ↓r59_64, ↓r59_65, ↓r59_68, ↓r59_71, ↓r59_72, ↓r59_73, ↓r59_74, ↓r59_75, ↓r59_78, ↓r59_81, ↓r59_82, ↓r59_83, ↓r59_84, ↓r59_85, ↓r59_88, ↓r59_91, ↓r59_92, ↓r59_93, ↓r59_94, ↓r59_95, ↓r59_98, ↓r59_101, ↓r59_102, ↓r59_103, ↓r59_104, ↓r59_105, ↓r59_108, ↓r59_111, ↓r59_112, ↓r59_113, ↓r59_114, ↓r59_115, ↓r59_118, ↓r59_119, ↓r59_122, ↓r59_123, ↓r59_124, ↓r59_127, ↓r59_130, ↓r59_131, ↓r59_132, ↓r59_135, ↓r59_136, ↓r59_137, ↓r59_140, ↓r59_143, ↓r59_144, ↓r59_145, ↓r59_146, ↓r59_149, ↓r59_152, ↓r59_153, ↓r59_154, ↓r59_157, ↓r59_158, ↓r59_159, ↓r59_162, ↓r59_165, ↓r59_166, ↓r59_167, ↓r59_168, ↓r59_171, ↓r59_174, ↓r59_175, ↓r59_176, ↓r59_179, ↓r59_180, ↓r59_182, zc_10, zc_18, zc_26, zc_0, zc_1, zc_7, zc_60, Nat.reduceAdd, true_and, zl_11, zok_nI (by omega : k < 10) (by omega), zix_nI (by omega : k < 2 ^ 31), l0]
      refine key h _ rfl rfl rfl (fun _ _ _ _ => rfl) ?_
      simp (decide := true) only [↓reduceIte, ↓r124_0, ↓r124_1, ↓r124_2, ↓r124_5, ↓r124_8, ↓r124_10, ↓r124_11, ↓r124_12, ↓r124_64, ↓r124_65, ↓r124_66, ↓r124_67, ↓r124_70, ↓r124_71, ↓r124_72, ↓r124_73, ↓r124_76, ↓r124_77, ↓r124_78, ↓r124_79, ↓r124_82, ↓r124_83, ↓r124_84, ↓r124_85, ↓r124_88, ↓r124_89, ↓r124_90, ↓r124_91, ↓r124_94, ↓r124_95, ↓r124_97, c113_0 (by omega : k < 10), Option.toList, List.cons_append, List.nil_append]
      exact zPq_in rfl (hQ _ _ hR0 rfl rfl)
    · simp (decide := true) only [↓reduceIte, ↓r59_0, ↓r59_1, ↓r59_4, ↓r59_5, ↓r59_8, ↓r59_11, ↓r59_13, ↓r59_14, ↓r59_15, ↓r59_64, ↓r59_65, ↓r59_68, ↓r59_71, ↓r59_72, ↓r59_73, ↓r59_74, ↓r59_75, ↓r59_78, ↓r59_81, ↓r59_82, ↓r59_83, ↓r59_84, ↓r59_85, ↓r59_88, ↓r59_91, ↓r59_92, ↓r59_93, ↓r59_94, ↓r59_95, ↓r59_98, ↓r59_101, ↓r59_102, ↓r59_103, ↓r59_104, ↓r59_105, ↓r59_108, ↓r59_111, ↓r59_112, ↓r59_113, ↓r59_114, ↓r59_115, ↓r59_118, ↓r59_119, ↓r59_122, ↓r59_123, ↓r59_124, ↓r59_127, ↓r59_130, ↓r59_131, ↓r59_132, ↓r59_135, ↓r59_136, ↓r59_137, ↓r59_140, ↓r59_143, ↓r59_144, ↓r59_145, ↓r59_146, ↓r59_149, ↓r59_152, ↓r59_153, ↓r59_154, ↓r59_157, ↓r59_158, ↓r59_159, ↓r59_162, ↓r59_165, ↓r59_166, ↓r59_167, ↓r59_168, ↓r59_171, ↓r59_174, ↓r59_175, ↓r59_176, ↓r59_179, ↓r59_180, ↓r59_182, zc_10, zc_18, zc_26, zc_0, zc_1, zc_7, zc_60, Nat.reduceAdd, true_and, zl_12, zok_nI (by omega : k < 10) (by omega), zix_nI (by omega : k < 2 ^ 31), l1]
      refine key h _ rfl rfl rfl (fun _ _ _ _ => rfl) ?_
      simp (decide := true) only [↓reduceIte, ↓r124_0, ↓r124_1, ↓r124_2, ↓r124_5, ↓r124_8, ↓r124_10, ↓r124_11, ↓r124_12, ↓r124_64, ↓r124_65, ↓r124_66, ↓r124_67, ↓r124_70, ↓r124_71, ↓r124_72, ↓r124_73, ↓r124_76, ↓r124_77, ↓r124_78, ↓r124_79, ↓r124_82, ↓r124_83, ↓r124_84, ↓r124_85, ↓r124_88, ↓r124_89, ↓r124_90, ↓r124_91, ↓r124_94, ↓r124_95, ↓r124_97, c113_1 (by omega : k < 10), Option.toList, List.cons_append, List.nil_append]
      exact zPq_in rfl (hQ _ _ hR0 rfl rfl)
    · simp (decide := true) only [↓reduceIte, ↓r59_0, ↓r59_1, ↓r59_4, ↓r59_5, ↓r59_8, ↓r59_11, ↓r59_13, ↓r59_14, ↓r59_15, ↓r59_64, ↓r59_65, ↓r59_68, ↓r59_71, ↓r59_72, ↓r59_73, ↓r59_74, ↓r59_75, ↓r59_78, ↓r59_81, ↓r59_82, ↓r59_83, ↓r59_84, ↓r59_85, ↓r59_88, ↓r59_91, ↓r59_92, ↓r59_93, ↓r59_94, ↓r59_95, ↓r59_98, ↓r59_101, ↓r59_102, ↓r59_103, ↓r59_104, ↓r59_105, ↓r59_108, ↓r59_111, ↓r59_112, ↓r59_113, ↓r59_114, ↓r59_115, ↓r59_118, ↓r59_119, ↓r59_122, ↓r59_123, ↓r59_124, ↓r59_127, ↓r59_130, ↓r59_131, ↓r59_132, ↓r59_135, ↓r59_136, ↓r59_137, ↓r59_140, ↓r59_143, ↓r59_144, ↓r59_145, ↓r59_146, ↓r59_149, ↓r59_152, ↓r59_153, ↓r59_154, ↓r59_157, ↓r59_158, ↓r59_159, ↓r59_162, ↓r59_165, ↓r59_166, ↓r59_167, ↓r59_168, ↓r59_171, ↓r59_174, ↓r59_175, ↓r59_176, ↓r59_179, ↓r59_180, ↓r59_182, zc_10, zc_18, zc_26, zc_0, zc_1, zc_7, zc_60, Nat.reduceAdd, true_and, zl_13, zok_nI (by omega : k < 10) (by omega), zix_nI (by omega : k < 2 ^ 31), l2]
      refine key h _ rfl rfl rfl (fun _ _ _ _ => rfl) ?_
      simp (decide := true) only [↓reduceIte, ↓r124_0, ↓r124_1, ↓r124_2, ↓r124_5, ↓r124_8, ↓r124_10, ↓r124_11, ↓r124_12, ↓r124_64, ↓r124_65, ↓r124_66, ↓r124_67, ↓r124_70, ↓r124_71, ↓r124_72, ↓r124_73, ↓r124_76, ↓r124_77, ↓r124_78, ↓r124_79, ↓r124_82, ↓r124_83, ↓r124_84, ↓r124_85, ↓r124_88, ↓r124_89, ↓r124_90, ↓r124_91, ↓r124_94, ↓r124_95, ↓r124_97, c113_2 (by omega : k < 10), Option.toList, List.cons_append, List.nil_append]
      exact zPq_in rfl (hQ _ _ hR0 rfl rfl)
    · simp (decide := true) only [↓reduceIte, ↓r59_0, ↓r59_1, ↓r59_4, ↓r59_5, ↓r59_8, ↓r59_11, ↓r59_13, ↓r59_14, ↓r59_15, ↓r59_64, ↓r59_65, ↓r59_68, ↓r59_71, ↓r59_72, ↓r59_73, ↓r59_74, ↓r59_75, ↓r59_78, ↓r59_81, ↓r59_82, ↓r59_83, ↓r59_84, ↓r59_85, ↓r59_88, ↓r59_91, ↓r59_92, ↓r59_93, ↓r59_94, ↓r59_95, ↓r59_98, ↓r59_101, ↓r59_102, ↓r59_103, ↓r59_104, ↓r59_105, ↓r59_108, ↓r59_111, ↓r59_112, ↓r59_113, ↓r59_114, ↓r59_115, ↓r59_118, ↓r59_119, ↓r59_122, ↓r59_123, ↓r59_124, ↓r59_127, ↓r59_130, ↓r59_131, ↓r59_132, ↓r59_135, ↓r59_136, ↓r59_137, ↓r59_140, ↓r59_143, ↓r59_144, ↓r59_145, ↓r59_146, ↓r59_149, ↓r59_152, ↓r59_153, ↓r59_154, ↓r59_157, ↓r59_158, ↓r59_159, ↓r59_162, ↓r59_165, ↓r59_166, ↓r59_167, ↓r59_168, ↓r59_171, ↓r59_174, ↓r59_175, ↓r59_176, ↓r59_179, ↓r59_180, ↓r59_182, zc_10, zc_18, zc_26, zc_0, zc_1, zc_7, zc_60, Nat.reduceAdd, true_and, zl_14, zok_nI (by omega : k < 10) (by omega), zix_nI (by omega : k < 2 ^ 31), l3]
      refine key h _ rfl rfl rfl (fun _ _ _ _ => rfl) ?_
      simp (decide := true) only [↓reduceIte, ↓r124_0, ↓r124_1, ↓r124_2, ↓r124_5, ↓r124_8, ↓r124_10, ↓r124_11, ↓r124_12, ↓r124_64, ↓r124_65, ↓r124_66, ↓r124_67, ↓r124_70, ↓r124_71, ↓r124_72, ↓r124_73, ↓r124_76, ↓r124_77, ↓r124_78, ↓r124_79, ↓r124_82, ↓r124_83, ↓r124_84, ↓r124_85, ↓r124_88, ↓r124_89, ↓r124_90, ↓r124_91, ↓r124_94, ↓r124_95, ↓r124_97, c113_3 (by omega : k < 10), Option.toList, List.cons_append, List.nil_append]
      exact zPq_in rfl (hQ _ _ hR0 rfl rfl)
    · simp (decide := true) only [↓reduceIte, ↓r59_0, ↓r59_1, ↓r59_4, ↓r59_5, ↓r59_8, ↓r59_11, ↓r59_13, ↓r59_14, ↓r59_15, ↓r59_64, ↓r59_65, ↓r59_68, ↓r59_71, ↓r59_72, ↓r59_73, ↓r59_74, ↓r59_75, ↓r59_78, ↓r59_81, ↓r59_82, ↓r59_83, ↓r59_84, ↓r59_85, ↓r59_88, ↓r59_91, ↓r59_92, ↓r59_93, ↓r59_94, ↓r59_95, ↓r59_98, ↓r59_101, ↓r59_102, ↓r59_103, ↓r59_104, ↓r59_105, ↓r59_108, ↓r59_111, ↓r59_112, ↓r59_113, ↓r59_114, ↓r59_115, ↓r59_118, ↓r59_119, ↓r59_122, ↓r59_123, ↓r59_124, ↓r59_127, ↓r59_130, ↓r59_131, ↓r59_132, ↓r59_135, ↓r59_136, ↓r59_137, ↓r59_140, ↓r59_143, ↓r59_144, ↓r59_145, ↓r59_146, ↓r59_149, ↓r59_152, ↓r59_153, ↓r59_154, ↓r59_157, ↓r59_158, ↓r59_159, ↓r59_162, ↓r59_165, ↓r59_166, ↓r59_167, ↓r59_168, ↓r59_171, ↓r59_174, ↓r59_175, ↓r59_176, ↓r59_179, ↓r59_180, ↓r59_182, zc_10, zc_18, zc_26, zc_0, zc_1, zc_7, zc_60, Nat.reduceAdd, true_and, zl_15, zok_nI (by omega : k < 10) (by omega), zix_nI (by omega : k < 2 ^ 31), l4]
      refine key h _ rfl rfl rfl (fun _ _ _ _ => rfl) ?_
      simp (decide := true) only [↓reduceIte, ↓r124_0, ↓r124_1, ↓r124_2, ↓r124_5, ↓r124_8, ↓r124_10, ↓r124_11, ↓r124_12, ↓r124_64, ↓r124_65, ↓r124_66, ↓r124_67, ↓r124_70, ↓r124_71, ↓r124_72, ↓r124_73, ↓r124_76, ↓r124_77, ↓r124_78, ↓r124_79, ↓r124_82, ↓r124_83, ↓r124_84, ↓r124_85, ↓r124_88, ↓r124_89, ↓r124_90, ↓r124_91, ↓r124_94, ↓r124_95, ↓r124_97, c113_4 (by omega : k < 10), Option.toList, List.cons_append, List.nil_append]
      exact zPq_in rfl (hQ _ _ hR0 rfl rfl)
    · simp (decide := true) only [↓reduceIte, ↓r59_0, ↓r59_1, ↓r59_4, ↓r59_5, ↓r59_8, ↓r59_11, ↓r59_13, ↓r59_14, ↓r59_15, ↓r59_64, ↓r59_65, ↓r59_68, ↓r59_71, ↓r59_72, ↓r59_73, ↓r59_74, ↓r59_75, ↓r59_78, ↓r59_81, ↓r59_82, ↓r59_83, ↓r59_84, ↓r59_85, ↓r59_88, ↓r59_91, ↓r59_92, ↓r59_93, ↓r59_94, ↓r59_95, ↓r59_98, ↓r59_101, ↓r59_102, ↓r59_103, ↓r59_104, ↓r59_105, ↓r59_108, ↓r59_111, ↓r59_112, ↓r59_113, ↓r59_114, ↓r59_115, ↓r59_118, ↓r59_119, ↓r59_122, ↓r59_123, ↓r59_124, ↓r59_127, ↓r59_130, ↓r59_131, ↓r59_132, ↓r59_135, ↓r59_136, ↓r59_137, ↓r59_140, ↓r59_143, ↓r59_144, ↓r59_145, ↓r59_146, ↓r59_149, ↓r59_152, ↓r59_153, ↓r59_154, ↓r59_157, ↓r59_158, ↓r59_159, ↓r59_162, ↓r59_165, ↓r59_166, ↓r59_167, ↓r59_168, ↓r59_171, ↓r59_174, ↓r59_175, ↓r59_176, ↓r59_179, ↓r59_180, ↓r59_182, zc_10, zc_18, zc_26, zc_0, zc_1, zc_7, zc_60, Nat.reduceAdd, true_and, Option.toList, List.cons_append, List.nil_append]
      refine d43 zst10 hn' h10 hk hTC (by rw [l1]; exact ⟨by have := hk1.2.1.1; grind, by have := hk1.2.1.2; grind⟩) fun h1 e1 => ?_
      rw [l0, l1, u3, l3]
      simp only [↓r59_0, ↓r59_1, ↓r59_4, ↓r59_5, ↓r59_8, ↓r59_11, ↓r59_13, ↓r59_14, ↓r59_15, ↓r59_64, ↓r59_65, ↓r59_68, ↓r59_71, ↓r59_72, ↓r59_73, ↓r59_74, ↓r59_75, ↓r59_78, ↓r59_81, ↓r59_82, ↓r59_83, ↓r59_84, ↓r59_85, ↓r59_88, ↓r59_91, ↓r59_92, ↓r59_93, ↓r59_94, ↓r59_95, ↓r59_98, ↓r59_101, ↓r59_102, ↓r59_103, ↓r59_104, ↓r59_105, ↓r59_108, ↓r59_111, ↓r59_112, ↓r59_113, ↓r59_114, ↓r59_115, ↓r59_118, ↓r59_119, ↓r59_122, ↓r59_123, ↓r59_124, ↓r59_127, ↓r59_130, ↓r59_131, ↓r59_132, ↓r59_135, ↓r59_136, ↓r59_137, ↓r59_140, ↓r59_143, ↓r59_144, ↓r59_145, ↓r59_146, ↓r59_149, ↓r59_152, ↓r59_153, ↓r59_154, ↓r59_157, ↓r59_158, ↓r59_159, ↓r59_162, ↓r59_165, ↓r59_166, ↓r59_167, ↓r59_168, ↓r59_171, ↓r59_174, ↓r59_175, ↓r59_176, ↓r59_179, ↓r59_180, ↓r59_182, Option.toList, List.cons_append, List.nil_append]
      refine key h1 _ (e1 _ (by omega)) (e1 _ (by omega)) (e1 _ (by omega)) (fun c a _ _ => e1 c a) ?_
      have e61 : h1 61 = h 61 := e1 _ (by omega)
      simp (decide := true) only [↓reduceIte, ↓r124_0, ↓r124_1, ↓r124_2, ↓r124_5, ↓r124_8, ↓r124_10, ↓r124_11, ↓r124_12, ↓r124_64, ↓r124_65, ↓r124_66, ↓r124_67, ↓r124_70, ↓r124_71, ↓r124_72, ↓r124_73, ↓r124_76, ↓r124_77, ↓r124_78, ↓r124_79, ↓r124_82, ↓r124_83, ↓r124_84, ↓r124_85, ↓r124_88, ↓r124_89, ↓r124_90, ↓r124_91, ↓r124_94, ↓r124_95, ↓r124_97, Option.toList, List.cons_append, List.nil_append]
      refine d120 (τ := zTauOf h 10) (by rw [e61]; exact hn) h10 hk (zTR_same e61 hTR) fun h2 e2 => ?_
      simp only [↓r124_0, ↓r124_1, ↓r124_2, ↓r124_5, ↓r124_8, ↓r124_10, ↓r124_11, ↓r124_12, ↓r124_64, ↓r124_65, ↓r124_66, ↓r124_67, ↓r124_70, ↓r124_71, ↓r124_72, ↓r124_73, ↓r124_76, ↓r124_77, ↓r124_78, ↓r124_79, ↓r124_82, ↓r124_83, ↓r124_84, ↓r124_85, ↓r124_88, ↓r124_89, ↓r124_90, ↓r124_91, ↓r124_94, ↓r124_95, ↓r124_97, Option.toList, List.cons_append, List.nil_append, e61]
      exact zPq_in rfl (hQ _ _ ⟨n, m, N, zRel_keep hRN (fun c a b d => (e2 c b d).trans (e1 c a))⟩ ((e2 _ (by omega) (by omega)).trans (e1 _ (by omega))) ((e2 _ (by omega) (by omega)).trans (e1 _ (by omega))))
    · simp (decide := true) only [↓reduceIte, ↓r59_0, ↓r59_1, ↓r59_4, ↓r59_5, ↓r59_8, ↓r59_11, ↓r59_13, ↓r59_14, ↓r59_15, ↓r59_64, ↓r59_65, ↓r59_68, ↓r59_71, ↓r59_72, ↓r59_73, ↓r59_74, ↓r59_75, ↓r59_78, ↓r59_81, ↓r59_82, ↓r59_83, ↓r59_84, ↓r59_85, ↓r59_88, ↓r59_91, ↓r59_92, ↓r59_93, ↓r59_94, ↓r59_95, ↓r59_98, ↓r59_101, ↓r59_102, ↓r59_103, ↓r59_104, ↓r59_105, ↓r59_108, ↓r59_111, ↓r59_112, ↓r59_113, ↓r59_114, ↓r59_115, ↓r59_118, ↓r59_119, ↓r59_122, ↓r59_123, ↓r59_124, ↓r59_127, ↓r59_130, ↓r59_131, ↓r59_132, ↓r59_135, ↓r59_136, ↓r59_137, ↓r59_140, ↓r59_143, ↓r59_144, ↓r59_145, ↓r59_146, ↓r59_149, ↓r59_152, ↓r59_153, ↓r59_154, ↓r59_157, ↓r59_158, ↓r59_159, ↓r59_162, ↓r59_165, ↓r59_166, ↓r59_167, ↓r59_168, ↓r59_171, ↓r59_174, ↓r59_175, ↓r59_176, ↓r59_179, ↓r59_180, ↓r59_182, zc_10, zc_18, zc_26, zc_0, zc_1, zc_7, zc_60, Nat.reduceAdd, true_and, zl_11, zok_nI (by omega : k < 10) (by omega), zix_nI (by omega : k < 2 ^ 31), l0, c3, Option.toList, List.cons_append, List.nil_append]
      refine key h _ rfl rfl rfl (fun _ _ _ _ => rfl) ?_
      simp (decide := true) only [↓reduceIte, ↓r124_0, ↓r124_1, ↓r124_2, ↓r124_5, ↓r124_8, ↓r124_10, ↓r124_11, ↓r124_12, ↓r124_64, ↓r124_65, ↓r124_66, ↓r124_67, ↓r124_70, ↓r124_71, ↓r124_72, ↓r124_73, ↓r124_76, ↓r124_77, ↓r124_78, ↓r124_79, ↓r124_82, ↓r124_83, ↓r124_84, ↓r124_85, ↓r124_88, ↓r124_89, ↓r124_90, ↓r124_91, ↓r124_94, ↓r124_95, ↓r124_97, c121k (by omega : k < 10), Option.toList, List.cons_append, List.nil_append]
      exact zPq_in rfl (hQ _ _ hR0 rfl rfl)
    · simp (decide := true) only [↓reduceIte, ↓r59_0, ↓r59_1, ↓r59_4, ↓r59_5, ↓r59_8, ↓r59_11, ↓r59_13, ↓r59_14, ↓r59_15, ↓r59_64, ↓r59_65, ↓r59_68, ↓r59_71, ↓r59_72, ↓r59_73, ↓r59_74, ↓r59_75, ↓r59_78, ↓r59_81, ↓r59_82, ↓r59_83, ↓r59_84, ↓r59_85, ↓r59_88, ↓r59_91, ↓r59_92, ↓r59_93, ↓r59_94, ↓r59_95, ↓r59_98, ↓r59_101, ↓r59_102, ↓r59_103, ↓r59_104, ↓r59_105, ↓r59_108, ↓r59_111, ↓r59_112, ↓r59_113, ↓r59_114, ↓r59_115, ↓r59_118, ↓r59_119, ↓r59_122, ↓r59_123, ↓r59_124, ↓r59_127, ↓r59_130, ↓r59_131, ↓r59_132, ↓r59_135, ↓r59_136, ↓r59_137, ↓r59_140, ↓r59_143, ↓r59_144, ↓r59_145, ↓r59_146, ↓r59_149, ↓r59_152, ↓r59_153, ↓r59_154, ↓r59_157, ↓r59_158, ↓r59_159, ↓r59_162, ↓r59_165, ↓r59_166, ↓r59_167, ↓r59_168, ↓r59_171, ↓r59_174, ↓r59_175, ↓r59_176, ↓r59_179, ↓r59_180, ↓r59_182, zc_10, zc_18, zc_26, zc_0, zc_1, zc_7, zc_60, Nat.reduceAdd, true_and, zl_11, zl_14, zok_nI (by omega : k < 10) (by omega), zix_nI (by omega : k < 2 ^ 31), l0, l3, c4, Option.toList, List.cons_append, List.nil_append]
      refine key h _ rfl rfl rfl (fun _ _ _ _ => rfl) ?_
      simp (decide := true) only [↓reduceIte, ↓r124_0, ↓r124_1, ↓r124_2, ↓r124_5, ↓r124_8, ↓r124_10, ↓r124_11, ↓r124_12, ↓r124_64, ↓r124_65, ↓r124_66, ↓r124_67, ↓r124_70, ↓r124_71, ↓r124_72, ↓r124_73, ↓r124_76, ↓r124_77, ↓r124_78, ↓r124_79, ↓r124_82, ↓r124_83, ↓r124_84, ↓r124_85, ↓r124_88, ↓r124_89, ↓r124_90, ↓r124_91, ↓r124_94, ↓r124_95, ↓r124_97, c122k (by omega : k < 10), Option.toList, List.cons_append, List.nil_append]
      exact zPq_in rfl (hQ _ _ hR0 rfl rfl)
    · simp (decide := true) only [↓reduceIte, ↓r59_0, ↓r59_1, ↓r59_4, ↓r59_5, ↓r59_8, ↓r59_11, ↓r59_13, ↓r59_14, ↓r59_15, ↓r59_64, ↓r59_65, ↓r59_68, ↓r59_71, ↓r59_72, ↓r59_73, ↓r59_74, ↓r59_75, ↓r59_78, ↓r59_81, ↓r59_82, ↓r59_83, ↓r59_84, ↓r59_85, ↓r59_88, ↓r59_91, ↓r59_92, ↓r59_93, ↓r59_94, ↓r59_95, ↓r59_98, ↓r59_101, ↓r59_102, ↓r59_103, ↓r59_104, ↓r59_105, ↓r59_108, ↓r59_111, ↓r59_112, ↓r59_113, ↓r59_114, ↓r59_115, ↓r59_118, ↓r59_119, ↓r59_122, ↓r59_123, ↓r59_124, ↓r59_127, ↓r59_130, ↓r59_131, ↓r59_132, ↓r59_135, ↓r59_136, ↓r59_137, ↓r59_140, ↓r59_143, ↓r59_144, ↓r59_145, ↓r59_146, ↓r59_149, ↓r59_152, ↓r59_153, ↓r59_154, ↓r59_157, ↓r59_158, ↓r59_159, ↓r59_162, ↓r59_165, ↓r59_166, ↓r59_167, ↓r59_168, ↓r59_171, ↓r59_174, ↓r59_175, ↓r59_176, ↓r59_179, ↓r59_180, ↓r59_182, zc_10, zc_18, zc_26, zc_0, zc_1, zc_7, zc_60, Nat.reduceAdd, true_and, zl_11, zl_12, zok_nI (by omega : k < 10) (by omega), zix_nI (by omega : k < 2 ^ 31), l0, l1, c5, Option.toList, List.cons_append, List.nil_append]
      refine key h _ rfl rfl rfl (fun _ _ _ _ => rfl) ?_
      simp (decide := true) only [↓reduceIte, ↓r124_0, ↓r124_1, ↓r124_2, ↓r124_5, ↓r124_8, ↓r124_10, ↓r124_11, ↓r124_12, ↓r124_64, ↓r124_65, ↓r124_66, ↓r124_67, ↓r124_70, ↓r124_71, ↓r124_72, ↓r124_73, ↓r124_76, ↓r124_77, ↓r124_78, ↓r124_79, ↓r124_82, ↓r124_83, ↓r124_84, ↓r124_85, ↓r124_88, ↓r124_89, ↓r124_90, ↓r124_91, ↓r124_94, ↓r124_95, ↓r124_97, c123k (by omega : k < 10), Option.toList, List.cons_append, List.nil_append]
      exact zPq_in rfl (hQ _ _ hR0 rfl rfl)
    · rw [r59_15]
      simp only [if_neg n0, if_neg n1, if_neg n2, if_neg n3, if_neg n4, if_neg n5, if_neg n6, if_neg n7, if_neg n8, r59_180, r59_182]
      refine key h _ rfl rfl rfl (fun _ _ _ _ => rfl) ?_
      rw [r124_12]
      simp only [if_neg n0, if_neg n1, if_neg n2, if_neg n3, if_neg n4, if_neg n5, if_neg n6, if_neg n7, if_neg n8, r124_95, r124_97]
      exact zPq_in rfl (hQ _ _ hR0 rfl rfl)
  · simp only [if_neg g, if_true]
    refine zPo_in rfl rfl ?_
    rw [m124]
    simp only [↓r124_0, ↓r124_1, ↓r124_2, ↓r124_5, ↓r124_8, ↓r124_10, ↓r124_11, ↓r124_12, ↓r124_64, ↓r124_65, ↓r124_66, ↓r124_67, ↓r124_70, ↓r124_71, ↓r124_72, ↓r124_73, ↓r124_76, ↓r124_77, ↓r124_78, ↓r124_79, ↓r124_82, ↓r124_83, ↓r124_84, ↓r124_85, ↓r124_88, ↓r124_89, ↓r124_90, ↓r124_91, ↓r124_94, ↓r124_95, ↓r124_97, c115, hn, if_neg g, Option.toList, List.cons_append, List.nil_append, if_true]
    exact zPq_in rfl (hQ _ _ hR0 rfl rfl)
end
