/-! pairs: turns, set, boat, rule, pull, loading -/
section
variable {d : Nat} {x0 x1 x2 v : Int32} {h h' : zH} {n m N n' m' k w j : Nat} {s : Nat → Int32}
theorem zRel_set (hR : zRelN h n m N) (e : ∀ c, ¬ (10 ≤ c ∧ c ≤ 16) → c ≠ 61 → c ≠ 6 → c ≠ 75 → c ≠ 76 → h' c = h c) (e14 : h' 10 14 = h 10 14) (hV : zV h' 10 (h' 61)) (hB : zB (h' 61) n' m') (e1 : h' 61 1 = h 61 1) (er : ∀ k, 62 ≤ k → h' 61 k = h 61 k) (hm' : m' ≤ 9999) : zRelN h' n' m' N := by
  refine zRel_st hR (fun c a b c1 c2 c3 => e c (by omega) b c1 c2 c3) ?_ hm'
  obtain ⟨⟨hSt, hm⟩, -⟩ := hR
  exact zSt_set hSt hV hB (e 17 (by omega) (by omega) (by omega) (by omega) (by omega)) (fun c' a b => e c' (by omega) (by omega) (by omega) (by omega) (by omega)) e14 e1 er
theorem zB_ld (hB : zB s n m) (hk : k < n) (hw : (w = 0 ∧ kOk v) ∨ (w = 1 ∧ 1 ≤ v ∧ v ≤ 99) ∨ (w = 2 ∧ (v = 0 ∨ v = 1)) ∨ w = 3) : zB (upd s (12 + 5 * k + w) v) n m := by
  obtain ⟨⟨b1, b2⟩, b3, b4, b5, b6, b7, b8⟩ := hB
  have lo : ∀ j, j < 12 → upd s (12 + 5 * k + w) v j = s j := fun j hj => zup_k hj
  refine ⟨⟨by rw [lo 0 (by omega)]; exact b1, b2⟩, fun i hi => ?_, by rw [lo 6 (by omega)]; exact b4, by rw [lo 7 (by omega)]; exact b5, by rw [lo 9 (by omega)]; exact b6, by rw [lo 2 (by omega)]; exact b7, by rw [lo 3 (by omega)]; exact b8⟩
  obtain ⟨q0, q1, q2, q3⟩ := b3 i hi
  rcases hw with ⟨rfl, p⟩ | ⟨rfl, p⟩ | ⟨rfl, p⟩ | rfl
  · rw [zup_w, zup_x (by omega) (by omega) (by omega), zup_x (by omega) (by omega) (by omega), zup_x (by omega) (by omega) (by omega)]
    refine ⟨?_, q1, q2, q3⟩
    by_cases g : i = k
    · rw [if_pos g]; exact p
    · rw [if_neg g]; exact q0
  · rw [zup_w, zup_x (by omega) (by omega) (by omega), zup_x (by omega) (by omega) (by omega), zup_x (by omega) (by omega) (by omega)]
    refine ⟨q0, ?_, q2, q3⟩
    by_cases g : i = k
    · rw [if_pos g]; exact p
    · rw [if_neg g]; exact q1
  · rw [zup_w, zup_x (by omega) (by omega) (by omega), zup_x (by omega) (by omega) (by omega), zup_x (by omega) (by omega) (by omega)]
    refine ⟨q0, q1, ?_, q3⟩
    by_cases g : i = k
    · rw [if_pos g]; exact p
    · rw [if_neg g]; exact q2
  · rw [zup_x (by omega) (by omega) (by omega), zup_x (by omega) (by omega) (by omega), zup_x (by omega) (by omega) (by omega), zup_x (by omega) (by omega) (by omega)]
    exact ⟨q0, q1, q2, q3⟩
theorem zB_rule (hB : zB s n m) (hw : (j = 0 ∧ (v = 0 ∨ v = 1)) ∨ (j = 1 ∧ 0 ≤ v ∧ v ≤ 90) ∨ j = 2 ∨ (j = 3 ∧ 0 ≤ v ∧ v ≤ 99) ∨ j = 4 ∨ j = 5) : zB (upd s (6 + j) v) n m := by
  obtain ⟨⟨b1, b2⟩, b3, b4, b5, b6, b7, b8⟩ := hB
  have lo : ∀ i, i < 6 ∨ 12 ≤ i → upd s (6 + j) v i = s i := fun i hi => by rw [zup_ap, if_neg (by omega)]
  refine ⟨⟨by rw [lo 0 (by omega)]; exact b1, b2⟩, fun i hi => ?_, ?_, ?_, ?_, by rw [lo 2 (by omega)]; exact b7, by rw [lo 3 (by omega)]; exact b8⟩
  · rw [lo _ (by omega), lo _ (by omega), lo _ (by omega), lo _ (by omega)]
    exact b3 i hi
  · rw [zup_ap]
    by_cases g : 6 = 6 + j
    · rw [if_pos g]
      rcases hw with ⟨_, p⟩ | ⟨rfl, p⟩ | rfl | ⟨rfl, p⟩ | rfl | rfl
      · exact p
      all_goals omega
    · rw [if_neg g]; exact b4
  · rw [zup_ap]
    by_cases g : 7 = 6 + j
    · rw [if_pos g]
      rcases hw with ⟨rfl, p⟩ | ⟨_, p⟩ | rfl | ⟨rfl, p⟩ | rfl | rfl
      · omega
      · exact p
      all_goals omega
    · rw [if_neg g]; exact b5
  · rw [zup_ap]
    by_cases g : 9 = 6 + j
    · rw [if_pos g]
      rcases hw with ⟨rfl, p⟩ | ⟨rfl, p⟩ | rfl | ⟨_, p⟩ | rfl | rfl
      · omega
      · omega
      · omega
      · exact p
      all_goals omega
    · rw [if_neg g]; exact b6
/-- one word of a load is set on both sides -/
theorem zRel_ld (hR : zRelN h n m N) (hk : k < n) (hw : (w = 0 ∧ kOk v) ∨ (w = 1 ∧ 1 ≤ v ∧ v ≤ 99) ∨ (w = 2 ∧ (v = 0 ∨ v = 1)) ∨ w = 3) : zRelN (zhr (zhr h (10 + 1 + w) (upd (h (10 + 1 + w)) k v)) 61 (upd (h 61) (12 + 5 * k + w) v)) n m N := by
  have hw4 : w < 4 := by omega
  have hSt := hR.1.1
  have h10 := hSt.2.1.1.2
  refine zRel_set hR (fun c a b _ _ _ => by rw [zhr_ne _ _ b, zhr_ne _ _ (by omega)]) (by rw [zhr_ne _ _ (by omega), zhr_ne _ _ (by omega)]) ?_ ?_ ?_ ?_ hR.1.2
  · rw [zhr_same]
    exact zV_rows (zV_load (by omega) (by omega) hSt.1) (by rw [zhr_ne _ _ (by omega)]) (fun j hj => by rw [zhr_ne _ _ (by omega)])
  · rw [zhr_same]
    exact zB_ld hSt.2.1 hk hw
  · rw [zhr_same, zup_k (by omega)]
  · intro k' hk'
    rw [zhr_same, zup_ap, if_neg (by omega)]
theorem zRel_rule (hR : zRelN h n m N) (hw : (j = 0 ∧ (v = 0 ∨ v = 1)) ∨ (j = 1 ∧ 0 ≤ v ∧ v ≤ 90) ∨ j = 2 ∨ (j = 3 ∧ 0 ≤ v ∧ v ≤ 99) ∨ j = 4 ∨ j = 5) : zRelN (zhr (zhr h 16 (upd (h 16) j v)) 61 (upd (h 61) (6 + j) v)) n m N := by
  have hw4 : j < 6 := by omega
  have hSt := hR.1.1
  have h10 := hSt.2.1.1.2
  refine zRel_set hR (fun c a b _ _ _ => by rw [zhr_ne _ _ b, zhr_ne _ _ (by omega)]) (by rw [zhr_ne _ _ (by omega), zhr_ne _ _ (by omega)]) ?_ ?_ ?_ ?_ hR.1.2
  · rw [zhr_same]
    exact zV_rows (zV_rule hw4 hSt.1) (by rw [zhr_ne _ _ (by omega)]) (fun j hj => by rw [zhr_ne _ _ (by omega)])
  · rw [zhr_same]
    exact zB_rule hSt.2.1 hw
  · rw [zhr_same, zup_ap, if_neg (by omega)]
  · intro k' hk'
    rw [zhr_same, zup_ap, if_neg (by omega)]
theorem c105 {a N' : Nat} {lo hi : Int32} {Q : Option Value → zH → Prop} (hl : ∀ (x : Int32) (h : zH) (k : Int32 → Prop), zal a x h k = (zok x N' ∧ k (h a (zix x)))) (hs : ∀ (x z : Int32) (h : zH) (k : zH → Prop), zas a x z h k = (zok x N' ∧ k (zhr h a (upd (h a) (zix x) z)))) (hn : ∀ (h : zH) (k : Int32 → Prop), zan a h k = k (nI N')) (hk : k < N') (hN : N' ≤ 10) : zM (d + 2) 105 [.ref a, .int (nI k), .int v, .int lo, .int hi] h Q = if lo ≤ v ∧ v ≤ hi then Q (some (.int (h a k))) (zhr h a (upd (h a) k v)) else Q (some (.int (-1000000001))) h := by
  rw [m105]
  simp only [↓r105_0, ↓r105_1, ↓r105_2, ↓r105_4, ↓r105_7, ↓r105_10, ↓r105_11, ↓r105_12, ↓r105_13, ↓r105_14, ↓r105_15, ↓r105_16, ↓r105_19, ↓r105_22, ↓r105_24, ↓r105_25, ↓r105_26, ↓r105_27, ↓r105_28, ↓r105_30, ↓r105_31, ↓r105_32, ↓r105_33, ↓r105_34, ↓r105_36, c103, hl, hs, hn, Option.toList, List.cons_append, List.nil_append]
  by_cases g : lo ≤ v ∧ v ≤ hi
  · have g2 := hasI hk hN
    simp (decide := true) only [if_pos g, if_pos g2, ↓reduceIte, zok_nI hk (by omega), zix_nI (by omega : k < 2 ^ 31), true_and]
  · simp (decide := true) only [if_neg g, ↓reduceIte]
theorem c105_11 {lo hi : Int32} {Q : Option Value → zH → Prop} (hk : k < 10) : zM (d + 2) 105 [.ref 11, .int (nI k), .int v, .int lo, .int hi] h Q = if lo ≤ v ∧ v ≤ hi then Q (some (.int (h 11 k))) (zhr h 11 (upd (h 11) k v)) else Q (some (.int (-1000000001))) h := c105 (N' := 10) (fun _ _ _ => zl_11) (fun _ _ _ _ => zs_11) (fun _ _ => zn_11) hk (by omega)
theorem c105_12 {lo hi : Int32} {Q : Option Value → zH → Prop} (hk : k < 10) : zM (d + 2) 105 [.ref 12, .int (nI k), .int v, .int lo, .int hi] h Q = if lo ≤ v ∧ v ≤ hi then Q (some (.int (h 12 k))) (zhr h 12 (upd (h 12) k v)) else Q (some (.int (-1000000001))) h := c105 (N' := 10) (fun _ _ _ => zl_12) (fun _ _ _ _ => zs_12) (fun _ _ => zn_12) hk (by omega)
theorem c105_13 {lo hi : Int32} {Q : Option Value → zH → Prop} (hk : k < 10) : zM (d + 2) 105 [.ref 13, .int (nI k), .int v, .int lo, .int hi] h Q = if lo ≤ v ∧ v ≤ hi then Q (some (.int (h 13 k))) (zhr h 13 (upd (h 13) k v)) else Q (some (.int (-1000000001))) h := c105 (N' := 10) (fun _ _ _ => zl_13) (fun _ _ _ _ => zs_13) (fun _ _ => zn_13) hk (by omega)
theorem c105_14 {lo hi : Int32} {Q : Option Value → zH → Prop} (hk : k < 10) : zM (d + 2) 105 [.ref 14, .int (nI k), .int v, .int lo, .int hi] h Q = if lo ≤ v ∧ v ≤ hi then Q (some (.int (h 14 k))) (zhr h 14 (upd (h 14) k v)) else Q (some (.int (-1000000001))) h := c105 (N' := 10) (fun _ _ _ => zl_14) (fun _ _ _ _ => zs_14) (fun _ _ => zn_14) hk (by omega)
theorem c105_16 {lo hi : Int32} {Q : Option Value → zH → Prop} (hk : k < 6) : zM (d + 2) 105 [.ref 16, .int (nI k), .int v, .int lo, .int hi] h Q = if lo ≤ v ∧ v ≤ hi then Q (some (.int (h 16 k))) (zhr h 16 (upd (h 16) k v)) else Q (some (.int (-1000000001))) h := c105 (N' := 6) (fun _ _ _ => zl_16) (fun _ _ _ _ => zs_16) (fun _ _ => zn_16) hk (by omega)
theorem c111k {Q : Option Value → zH → Prop} {i : Nat} (hi : i < 3062) : zM (d + 1) 111 [.ref 60, .int (nI i), .int x1] h Q = Q (some (.int (h 61 i))) (zhr h 61 (upd (h 61) i x1)) := by
  rw [c111, zix_nI (by omega)]
  simp only [zok_nI hi (by omega), true_and]
theorem kOk_of (g : 0 ≤ v ∧ v ≤ 5) : kOk v := by
  rcases sw9 v with e | e | e | e | e | e | e | e | e | ⟨n0, n1, n2, n3, n4, n5, n6, n7, n8⟩
  · exact Or.inl e
  · exact Or.inr (Or.inl e)
  · exact Or.inr (Or.inr (Or.inl e))
  · exact Or.inr (Or.inr (Or.inr (Or.inl e)))
  · exact Or.inr (Or.inr (Or.inr (Or.inr (Or.inl e))))
  · exact Or.inr (Or.inr (Or.inr (Or.inr (Or.inr e))))
  all_goals (exfalso; grind)
theorem b01_of (g : 0 ≤ v ∧ v ≤ 1) : v = 0 ∨ v = 1 := by grind
theorem kix0 (k : Nat) : 12 + 5 * nI k = nI (12 + 5 * k) := by
  have := kix k 0
  rwa [nI_0, Int32.add_zero] at this
theorem kix1 (k : Nat) : 12 + 5 * nI k + 1 = nI (12 + 5 * k + 1) := kix k 1
theorem kix2 (k : Nat) : 12 + 5 * nI k + 2 = nI (12 + 5 * k + 2) := kix k 2
theorem kix3 (k : Nat) : 12 + 5 * nI k + 3 = nI (12 + 5 * k + 3) := kix k 3
theorem p_turns : zPair (d + 20) (d + 20) 61 127 [.int x0, .int x1] := by
  intro h Q2 hR hQ
  have hR0 := hR
  obtain ⟨n, m, N, hRN⟩ := hR
  obtain ⟨⟨hSt, hm⟩, -⟩ := id hRN
  obtain ⟨⟨hn, h10⟩, hld, -⟩ := hSt.2.1
  have hn' : h 10 1 = nI n := hSt.1.1.1.trans hn
  rw [m61]
  simp only [↓r61_0, ↓r61_1, ↓r61_4, ↓r61_5, ↓r61_8, ↓r61_11, ↓r61_13, ↓r61_14, ↓r61_15, ↓r61_18, ↓r61_21, ↓r61_22, ↓r61_23, ↓r61_24, ↓r61_25, ↓r61_28, zc_10, zc_18, zc_26, zc_0, zc_1, zc_7, zc_60, Nat.reduceAdd, true_and, c37 zst10, hn', Option.toList, List.cons_append, List.nil_append]
  by_cases g : 0 ≤ x0 ∧ x0 ≤ nI n - 1
  · obtain ⟨k, hk, rfl⟩ := hasK h10 g
    have l0 := (zV10 hSt.1 (by omega : k < 10)).1
    simp only [if_pos g, Option.toList, List.cons_append, List.nil_append, c105_11 (by omega : k < 10), l0]
    rw [if_neg (by decide)]
    by_cases g2 : 0 ≤ x1 ∧ x1 ≤ 5
    · simp only [if_pos g2, ↓r61_0, ↓r61_1, ↓r61_4, ↓r61_5, ↓r61_8, ↓r61_11, ↓r61_13, ↓r61_14, ↓r61_15, ↓r61_18, ↓r61_21, ↓r61_22, ↓r61_23, ↓r61_24, ↓r61_25, ↓r61_28, Option.toList, List.cons_append, List.nil_append]
      refine zPo_in rfl rfl ?_
      rw [m127]
      simp only [↓r127_0, ↓r127_1, ↓r127_2, ↓r127_5, ↓r127_8, ↓r127_9, ↓r127_10, ↓r127_11, ↓r127_14, ↓r127_17, ↓r127_20, ↓r127_21, ↓r127_23, ↓r127_24, ↓r127_25, ↓r127_26, ↓r127_27, ↓r127_28, ↓r127_31, ↓r127_34, ↓r127_36, c115, zhr_ap, Nat.reduceEqDiff, if_false, hn, if_pos g, c106, if_pos g2, kix0, c111k (by omega : 12 + 5 * k < 3062), Option.toList, List.cons_append, List.nil_append]
      rw [if_neg (by decide), if_neg (by decide)]
      exact zPq_in rfl (hQ _ _ ⟨n, m, N, zRel_ld (w := 0) hRN hk (Or.inl ⟨rfl, kOk_of g2⟩)⟩ rfl rfl)
    · simp only [if_neg g2, ↓r61_0, ↓r61_1, ↓r61_4, ↓r61_5, ↓r61_8, ↓r61_11, ↓r61_13, ↓r61_14, ↓r61_15, ↓r61_18, ↓r61_21, ↓r61_22, ↓r61_23, ↓r61_24, ↓r61_25, ↓r61_28, Option.toList, List.cons_append, List.nil_append]
      refine zPo_in rfl rfl ?_
      rw [m127]
      simp only [↓r127_0, ↓r127_1, ↓r127_2, ↓r127_5, ↓r127_8, ↓r127_9, ↓r127_10, ↓r127_11, ↓r127_14, ↓r127_17, ↓r127_20, ↓r127_21, ↓r127_23, ↓r127_24, ↓r127_25, ↓r127_26, ↓r127_27, ↓r127_28, ↓r127_31, ↓r127_34, ↓r127_36, c115, hn, if_pos g, c106, if_neg g2, Option.toList, List.cons_append, List.nil_append, if_true]
      rw [if_neg (by decide)]
      exact zPq_in rfl (hQ _ _ hR0 rfl rfl)
  · simp only [if_neg g, if_true]
    refine zPo_in rfl rfl ?_
    rw [m127]
    simp only [↓r127_0, ↓r127_1, ↓r127_2, ↓r127_5, ↓r127_8, ↓r127_9, ↓r127_10, ↓r127_11, ↓r127_14, ↓r127_17, ↓r127_20, ↓r127_21, ↓r127_23, ↓r127_24, ↓r127_25, ↓r127_26, ↓r127_27, ↓r127_28, ↓r127_31, ↓r127_34, ↓r127_36, c115, hn, if_neg g, Option.toList, List.cons_append, List.nil_append, if_true]
    exact zPq_in rfl (hQ _ _ hR0 rfl rfl)
theorem p_set : zPair (d + 20) (d + 20) 62 128 [.int x0, .int x1, .int x2] := by
  intro h Q2 hR hQ
  have hR0 := hR
  obtain ⟨n, m, N, hRN⟩ := hR
  obtain ⟨⟨hSt, hm⟩, -⟩ := id hRN
  obtain ⟨⟨hn, h10⟩, hld, -⟩ := hSt.2.1
  have hn' : h 10 1 = nI n := hSt.1.1.1.trans hn
  rw [m62]
  simp only [↓r62_0, ↓r62_1, ↓r62_4, ↓r62_5, ↓r62_8, ↓r62_11, ↓r62_13, ↓r62_14, ↓r62_40, ↓r62_41, ↓r62_44, ↓r62_47, ↓r62_48, ↓r62_49, ↓r62_50, ↓r62_52, ↓r62_55, ↓r62_56, ↓r62_57, ↓r62_60, ↓r62_63, ↓r62_64, ↓r62_65, ↓r62_66, ↓r62_67, ↓r62_70, ↓r62_71, ↓r62_72, ↓r62_75, ↓r62_78, ↓r62_79, ↓r62_80, ↓r62_81, ↓r62_84, ↓r62_87, ↓r62_88, ↓r62_90, zc_10, zc_18, zc_26, zc_0, zc_1, zc_7, zc_60, Nat.reduceAdd, true_and, c37 zst10, hn', Option.toList, List.cons_append, List.nil_append]
  by_cases g : 0 ≤ x0 ∧ x0 ≤ nI n - 1
  · obtain ⟨k, hk, rfl⟩ := hasK h10 g
    obtain ⟨l0, l1, l2, l3, l4⟩ := zV10 hSt.1 (by omega : k < 10)
    simp only [if_pos g, Option.toList, List.cons_append, List.nil_append]
    rw [if_neg (by decide)]
    by_cases s1 : x1 = 1
    · subst s1
      simp (decide := true) only [↓reduceIte, ↓r62_0, ↓r62_1, ↓r62_4, ↓r62_5, ↓r62_8, ↓r62_11, ↓r62_13, ↓r62_14, ↓r62_15, ↓r62_40, ↓r62_41, ↓r62_44, ↓r62_47, ↓r62_48, ↓r62_49, ↓r62_50, ↓r62_52, ↓r62_55, ↓r62_56, ↓r62_57, ↓r62_60, ↓r62_63, ↓r62_64, ↓r62_65, ↓r62_66, ↓r62_67, ↓r62_70, ↓r62_71, ↓r62_72, ↓r62_75, ↓r62_78, ↓r62_79, ↓r62_80, ↓r62_81, ↓r62_84, ↓r62_87, ↓r62_88, ↓r62_90, zc_10, zc_18, zc_26, zc_0, zc_1, zc_7, zc_60, Nat.reduceAdd, true_and, Option.toList, List.cons_append, List.nil_append, c105_12 (by omega : k < 10), l1]
      by_cases g2 : 1 ≤ x2 ∧ x2 ≤ 99
      · simp only [if_pos g2, ↓r62_0, ↓r62_1, ↓r62_4, ↓r62_5, ↓r62_8, ↓r62_11, ↓r62_13, ↓r62_14, ↓r62_15, ↓r62_40, ↓r62_41, ↓r62_44, ↓r62_47, ↓r62_48, ↓r62_49, ↓r62_50, ↓r62_52, ↓r62_55, ↓r62_56, ↓r62_57, ↓r62_60, ↓r62_63, ↓r62_64, ↓r62_65, ↓r62_66, ↓r62_67, ↓r62_70, ↓r62_71, ↓r62_72, ↓r62_75, ↓r62_78, ↓r62_79, ↓r62_80, ↓r62_81, ↓r62_84, ↓r62_87, ↓r62_88, ↓r62_90, Option.toList, List.cons_append, List.nil_append]
        refine zPo_in rfl rfl ?_
        rw [m128]
        simp (decide := true) only [↓reduceIte, ↓r128_0, ↓r128_1, ↓r128_2, ↓r128_5, ↓r128_8, ↓r128_9, ↓r128_10, ↓r128_11, ↓r128_14, ↓r128_17, ↓r128_20, ↓r128_21, ↓r128_22, ↓r128_23, ↓r128_24, ↓r128_27, ↓r128_28, ↓r128_31, ↓r128_32, ↓r128_33, ↓r128_34, ↓r128_37, ↓r128_40, ↓r128_43, ↓r128_44, ↓r128_45, ↓r128_48, ↓r128_49, ↓r128_52, ↓r128_55, ↓r128_58, ↓r128_61, ↓r128_63, ↓r128_64, ↓r128_65, ↓r128_67, ↓r128_68, ↓r128_69, ↓r128_70, ↓r128_71, ↓r128_72, ↓r128_73, ↓r128_74, ↓r128_77, c115, zhr_ap, Nat.reduceEqDiff, hn, if_pos g, c106, if_pos g2, kix1, c111k (by omega : 12 + 5 * k + 1 < 3062), Option.toList, List.cons_append, List.nil_append]
        exact zPq_in rfl (hQ _ _ ⟨n, m, N, zRel_ld (w := 1) hRN hk (Or.inr (Or.inl ⟨rfl, g2⟩))⟩ rfl rfl)
      · simp only [if_neg g2, ↓r62_0, ↓r62_1, ↓r62_4, ↓r62_5, ↓r62_8, ↓r62_11, ↓r62_13, ↓r62_14, ↓r62_15, ↓r62_40, ↓r62_41, ↓r62_44, ↓r62_47, ↓r62_48, ↓r62_49, ↓r62_50, ↓r62_52, ↓r62_55, ↓r62_56, ↓r62_57, ↓r62_60, ↓r62_63, ↓r62_64, ↓r62_65, ↓r62_66, ↓r62_67, ↓r62_70, ↓r62_71, ↓r62_72, ↓r62_75, ↓r62_78, ↓r62_79, ↓r62_80, ↓r62_81, ↓r62_84, ↓r62_87, ↓r62_88, ↓r62_90, Option.toList, List.cons_append, List.nil_append]
        refine zPo_in rfl rfl ?_
        rw [m128]
        simp (decide := true) only [↓reduceIte, ↓r128_0, ↓r128_1, ↓r128_2, ↓r128_5, ↓r128_8, ↓r128_9, ↓r128_10, ↓r128_11, ↓r128_14, ↓r128_17, ↓r128_20, ↓r128_21, ↓r128_22, ↓r128_23, ↓r128_24, ↓r128_27, ↓r128_28, ↓r128_31, ↓r128_32, ↓r128_33, ↓r128_34, ↓r128_37, ↓r128_40, ↓r128_43, ↓r128_44, ↓r128_45, ↓r128_48, ↓r128_49, ↓r128_52, ↓r128_55, ↓r128_58, ↓r128_61, ↓r128_63, ↓r128_64, ↓r128_65, ↓r128_67, ↓r128_68, ↓r128_69, ↓r128_70, ↓r128_71, ↓r128_72, ↓r128_73, ↓r128_74, ↓r128_77, c115, hn, if_pos g, c106, if_neg g2, Option.toList, List.cons_append, List.nil_append]
        exact zPq_in rfl (hQ _ _ hR0 rfl rfl)
    by_cases s2 : x1 = 2
    · subst s2
      simp (decide := true) only [↓reduceIte, ↓r62_0, ↓r62_1, ↓r62_4, ↓r62_5, ↓r62_8, ↓r62_11, ↓r62_13, ↓r62_14, ↓r62_15, ↓r62_40, ↓r62_41, ↓r62_44, ↓r62_47, ↓r62_48, ↓r62_49, ↓r62_50, ↓r62_52, ↓r62_55, ↓r62_56, ↓r62_57, ↓r62_60, ↓r62_63, ↓r62_64, ↓r62_65, ↓r62_66, ↓r62_67, ↓r62_70, ↓r62_71, ↓r62_72, ↓r62_75, ↓r62_78, ↓r62_79, ↓r62_80, ↓r62_81, ↓r62_84, ↓r62_87, ↓r62_88, ↓r62_90, zc_10, zc_18, zc_26, zc_0, zc_1, zc_7, zc_60, Nat.reduceAdd, true_and, Option.toList, List.cons_append, List.nil_append, c105_13 (by omega : k < 10), l2]
      by_cases g2 : 0 ≤ x2 ∧ x2 ≤ 1
      · simp only [if_pos g2, ↓r62_0, ↓r62_1, ↓r62_4, ↓r62_5, ↓r62_8, ↓r62_11, ↓r62_13, ↓r62_14, ↓r62_15, ↓r62_40, ↓r62_41, ↓r62_44, ↓r62_47, ↓r62_48, ↓r62_49, ↓r62_50, ↓r62_52, ↓r62_55, ↓r62_56, ↓r62_57, ↓r62_60, ↓r62_63, ↓r62_64, ↓r62_65, ↓r62_66, ↓r62_67, ↓r62_70, ↓r62_71, ↓r62_72, ↓r62_75, ↓r62_78, ↓r62_79, ↓r62_80, ↓r62_81, ↓r62_84, ↓r62_87, ↓r62_88, ↓r62_90, Option.toList, List.cons_append, List.nil_append]
        refine zPo_in rfl rfl ?_
        rw [m128]
        simp (decide := true) only [↓reduceIte, ↓r128_0, ↓r128_1, ↓r128_2, ↓r128_5, ↓r128_8, ↓r128_9, ↓r128_10, ↓r128_11, ↓r128_14, ↓r128_17, ↓r128_20, ↓r128_21, ↓r128_22, ↓r128_23, ↓r128_24, ↓r128_27, ↓r128_28, ↓r128_31, ↓r128_32, ↓r128_33, ↓r128_34, ↓r128_37, ↓r128_40, ↓r128_43, ↓r128_44, ↓r128_45, ↓r128_48, ↓r128_49, ↓r128_52, ↓r128_55, ↓r128_58, ↓r128_61, ↓r128_63, ↓r128_64, ↓r128_65, ↓r128_67, ↓r128_68, ↓r128_69, ↓r128_70, ↓r128_71, ↓r128_72, ↓r128_73, ↓r128_74, ↓r128_77, c115, zhr_ap, Nat.reduceEqDiff, hn, if_pos g, c106, if_pos g2, kix2, c111k (by omega : 12 + 5 * k + 2 < 3062), Option.toList, List.cons_append, List.nil_append]
        exact zPq_in rfl (hQ _ _ ⟨n, m, N, zRel_ld (w := 2) hRN hk (Or.inr (Or.inr (Or.inl ⟨rfl, b01_of g2⟩)))⟩ rfl rfl)
      · simp only [if_neg g2, ↓r62_0, ↓r62_1, ↓r62_4, ↓r62_5, ↓r62_8, ↓r62_11, ↓r62_13, ↓r62_14, ↓r62_15, ↓r62_40, ↓r62_41, ↓r62_44, ↓r62_47, ↓r62_48, ↓r62_49, ↓r62_50, ↓r62_52, ↓r62_55, ↓r62_56, ↓r62_57, ↓r62_60, ↓r62_63, ↓r62_64, ↓r62_65, ↓r62_66, ↓r62_67, ↓r62_70, ↓r62_71, ↓r62_72, ↓r62_75, ↓r62_78, ↓r62_79, ↓r62_80, ↓r62_81, ↓r62_84, ↓r62_87, ↓r62_88, ↓r62_90, Option.toList, List.cons_append, List.nil_append]
        refine zPo_in rfl rfl ?_
        rw [m128]
        simp (decide := true) only [↓reduceIte, ↓r128_0, ↓r128_1, ↓r128_2, ↓r128_5, ↓r128_8, ↓r128_9, ↓r128_10, ↓r128_11, ↓r128_14, ↓r128_17, ↓r128_20, ↓r128_21, ↓r128_22, ↓r128_23, ↓r128_24, ↓r128_27, ↓r128_28, ↓r128_31, ↓r128_32, ↓r128_33, ↓r128_34, ↓r128_37, ↓r128_40, ↓r128_43, ↓r128_44, ↓r128_45, ↓r128_48, ↓r128_49, ↓r128_52, ↓r128_55, ↓r128_58, ↓r128_61, ↓r128_63, ↓r128_64, ↓r128_65, ↓r128_67, ↓r128_68, ↓r128_69, ↓r128_70, ↓r128_71, ↓r128_72, ↓r128_73, ↓r128_74, ↓r128_77, c115, hn, if_pos g, c106, if_neg g2, Option.toList, List.cons_append, List.nil_append]
        exact zPq_in rfl (hQ _ _ hR0 rfl rfl)
    by_cases s3 : x1 = 3
    · subst s3
      simp (decide := true) only [↓reduceIte, ↓r62_0, ↓r62_1, ↓r62_4, ↓r62_5, ↓r62_8, ↓r62_11, ↓r62_13, ↓r62_14, ↓r62_15, ↓r62_40, ↓r62_41, ↓r62_44, ↓r62_47, ↓r62_48, ↓r62_49, ↓r62_50, ↓r62_52, ↓r62_55, ↓r62_56, ↓r62_57, ↓r62_60, ↓r62_63, ↓r62_64, ↓r62_65, ↓r62_66, ↓r62_67, ↓r62_70, ↓r62_71, ↓r62_72, ↓r62_75, ↓r62_78, ↓r62_79, ↓r62_80, ↓r62_81, ↓r62_84, ↓r62_87, ↓r62_88, ↓r62_90, zc_10, zc_18, zc_26, zc_0, zc_1, zc_7, zc_60, Nat.reduceAdd, true_and, Option.toList, List.cons_append, List.nil_append, c105_14 (by omega : k < 10), l3]
      by_cases g2 : 0 ≤ x2 ∧ x2 ≤ 9999
      · simp only [if_pos g2, ↓r62_0, ↓r62_1, ↓r62_4, ↓r62_5, ↓r62_8, ↓r62_11, ↓r62_13, ↓r62_14, ↓r62_15, ↓r62_40, ↓r62_41, ↓r62_44, ↓r62_47, ↓r62_48, ↓r62_49, ↓r62_50, ↓r62_52, ↓r62_55, ↓r62_56, ↓r62_57, ↓r62_60, ↓r62_63, ↓r62_64, ↓r62_65, ↓r62_66, ↓r62_67, ↓r62_70, ↓r62_71, ↓r62_72, ↓r62_75, ↓r62_78, ↓r62_79, ↓r62_80, ↓r62_81, ↓r62_84, ↓r62_87, ↓r62_88, ↓r62_90, Option.toList, List.cons_append, List.nil_append]
        refine zPo_in rfl rfl ?_
        rw [m128]
        simp (decide := true) only [↓reduceIte, ↓r128_0, ↓r128_1, ↓r128_2, ↓r128_5, ↓r128_8, ↓r128_9, ↓r128_10, ↓r128_11, ↓r128_14, ↓r128_17, ↓r128_20, ↓r128_21, ↓r128_22, ↓r128_23, ↓r128_24, ↓r128_27, ↓r128_28, ↓r128_31, ↓r128_32, ↓r128_33, ↓r128_34, ↓r128_37, ↓r128_40, ↓r128_43, ↓r128_44, ↓r128_45, ↓r128_48, ↓r128_49, ↓r128_52, ↓r128_55, ↓r128_58, ↓r128_61, ↓r128_63, ↓r128_64, ↓r128_65, ↓r128_67, ↓r128_68, ↓r128_69, ↓r128_70, ↓r128_71, ↓r128_72, ↓r128_73, ↓r128_74, ↓r128_77, c115, zhr_ap, Nat.reduceEqDiff, hn, if_pos g, c106, if_pos g2, kix3, c111k (by omega : 12 + 5 * k + 3 < 3062), Option.toList, List.cons_append, List.nil_append]
        exact zPq_in rfl (hQ _ _ ⟨n, m, N, zRel_ld (w := 3) hRN hk (Or.inr (Or.inr (Or.inr rfl)))⟩ rfl rfl)
      · simp only [if_neg g2, ↓r62_0, ↓r62_1, ↓r62_4, ↓r62_5, ↓r62_8, ↓r62_11, ↓r62_13, ↓r62_14, ↓r62_15, ↓r62_40, ↓r62_41, ↓r62_44, ↓r62_47, ↓r62_48, ↓r62_49, ↓r62_50, ↓r62_52, ↓r62_55, ↓r62_56, ↓r62_57, ↓r62_60, ↓r62_63, ↓r62_64, ↓r62_65, ↓r62_66, ↓r62_67, ↓r62_70, ↓r62_71, ↓r62_72, ↓r62_75, ↓r62_78, ↓r62_79, ↓r62_80, ↓r62_81, ↓r62_84, ↓r62_87, ↓r62_88, ↓r62_90, Option.toList, List.cons_append, List.nil_append]
        refine zPo_in rfl rfl ?_
        rw [m128]
        simp (decide := true) only [↓reduceIte, ↓r128_0, ↓r128_1, ↓r128_2, ↓r128_5, ↓r128_8, ↓r128_9, ↓r128_10, ↓r128_11, ↓r128_14, ↓r128_17, ↓r128_20, ↓r128_21, ↓r128_22, ↓r128_23, ↓r128_24, ↓r128_27, ↓r128_28, ↓r128_31, ↓r128_32, ↓r128_33, ↓r128_34, ↓r128_37, ↓r128_40, ↓r128_43, ↓r128_44, ↓r128_45, ↓r128_48, ↓r128_49, ↓r128_52, ↓r128_55, ↓r128_58, ↓r128_61, ↓r128_63, ↓r128_64, ↓r128_65, ↓r128_67, ↓r128_68, ↓r128_69, ↓r128_70, ↓r128_71, ↓r128_72, ↓r128_73, ↓r128_74, ↓r128_77, c115, hn, if_pos g, c106, if_neg g2, Option.toList, List.cons_append, List.nil_append]
        exact zPq_in rfl (hQ _ _ hR0 rfl rfl)
    rw [r62_15]
    simp only [if_neg s1, if_neg s2, if_neg s3, ↓r62_0, ↓r62_1, ↓r62_4, ↓r62_5, ↓r62_8, ↓r62_11, ↓r62_13, ↓r62_14, ↓r62_15, ↓r62_40, ↓r62_41, ↓r62_44, ↓r62_47, ↓r62_48, ↓r62_49, ↓r62_50, ↓r62_52, ↓r62_55, ↓r62_56, ↓r62_57, ↓r62_60, ↓r62_63, ↓r62_64, ↓r62_65, ↓r62_66, ↓r62_67, ↓r62_70, ↓r62_71, ↓r62_72, ↓r62_75, ↓r62_78, ↓r62_79, ↓r62_80, ↓r62_81, ↓r62_84, ↓r62_87, ↓r62_88, ↓r62_90, Option.toList, List.cons_append, List.nil_append]
    refine zPo_in rfl rfl ?_
    rw [m128]
    have g2 : ¬ (1 ≤ x1 ∧ x1 ≤ 3) := by grind
    simp (decide := true) only [↓reduceIte, ↓r128_0, ↓r128_1, ↓r128_2, ↓r128_5, ↓r128_8, ↓r128_9, ↓r128_10, ↓r128_11, ↓r128_14, ↓r128_17, ↓r128_20, ↓r128_21, ↓r128_22, ↓r128_23, ↓r128_24, ↓r128_27, ↓r128_28, ↓r128_31, ↓r128_32, ↓r128_33, ↓r128_34, ↓r128_37, ↓r128_40, ↓r128_43, ↓r128_44, ↓r128_45, ↓r128_48, ↓r128_49, ↓r128_52, ↓r128_55, ↓r128_58, ↓r128_61, ↓r128_63, ↓r128_64, ↓r128_65, ↓r128_67, ↓r128_68, ↓r128_69, ↓r128_70, ↓r128_71, ↓r128_72, ↓r128_73, ↓r128_74, ↓r128_77, c115, hn, if_pos g, c106, if_neg g2, Option.toList, List.cons_append, List.nil_append]
    exact zPq_in rfl (hQ _ _ hR0 rfl rfl)
  · simp only [if_neg g, if_true]
    refine zPo_in rfl rfl ?_
    rw [m128]
    simp only [↓r128_0, ↓r128_1, ↓r128_2, ↓r128_5, ↓r128_8, ↓r128_9, ↓r128_10, ↓r128_11, ↓r128_14, ↓r128_17, ↓r128_20, ↓r128_21, ↓r128_22, ↓r128_23, ↓r128_24, ↓r128_27, ↓r128_28, ↓r128_31, ↓r128_32, ↓r128_33, ↓r128_34, ↓r128_37, ↓r128_40, ↓r128_43, ↓r128_44, ↓r128_45, ↓r128_48, ↓r128_49, ↓r128_52, ↓r128_55, ↓r128_58, ↓r128_61, ↓r128_63, ↓r128_64, ↓r128_65, ↓r128_67, ↓r128_68, ↓r128_69, ↓r128_70, ↓r128_71, ↓r128_72, ↓r128_73, ↓r128_74, ↓r128_77, c115, hn, if_neg g, Option.toList, List.cons_append, List.nil_append, if_true]
    exact zPq_in rfl (hQ _ _ hR0 rfl rfl)
theorem zoks : zok 0 6 = True ∧ zok 1 6 = True ∧ zok 2 6 = True ∧ zok 3 6 = True ∧ zok 4 6 = True ∧ zok 5 6 = True ∧ zok 7 3062 = True ∧ zok 9 3062 = True := by unfold zok; decide
theorem zixs : zix 0 = 0 ∧ zix 1 = 1 ∧ zix 2 = 2 ∧ zix 3 = 3 ∧ zix 4 = 4 ∧ zix 5 = 5 ∧ zix 6 = 6 ∧ zix 7 = 7 ∧ zix 8 = 8 ∧ zix 9 = 9 ∧ zix 10 = 10 ∧ zix 11 = 11 := by decide
theorem zok5' : zok 5 3062 = True := eq_true zok5
theorem kadd6 : (6 : Int32) + 0 = 6 ∧ (6 : Int32) + 1 = 7 ∧ (6 : Int32) + 2 = 8 ∧ (6 : Int32) + 3 = 9 ∧ (6 : Int32) + 4 = 10 ∧ (6 : Int32) + 5 = 11 := by decide
theorem p_boat : zPair (d + 20) (d + 20) 63 131 [.int x0] := by
  intro h Q2 hR hQ
  have hR0 := hR
  obtain ⟨n, m, N, hRN⟩ := hR
  obtain ⟨⟨hSt, hm⟩, -⟩ := id hRN
  obtain ⟨-, ⟨u0, u1, u2, u3, u4, u5⟩, -⟩ := hSt.1
  obtain ⟨⟨hn, h10⟩, hld, b4, b5, b6, -⟩ := hSt.2.1
  have k1 : 0 ≤ h (10 + 6) 1 := by rw [u1]; exact b5.1
  have k2 : h (10 + 6) 1 ≤ 90 := by rw [u1]; exact b5.2
  have k3 : 0 ≤ h (10 + 6) 3 := by rw [u3]; exact b6.1
  have k4 : h (10 + 6) 3 ≤ 99 := by rw [u3]; exact b6.2
  rw [m63]
  rcases sw9 x0 with rfl | rfl | rfl | rfl | rfl | rfl | rfl | rfl | rfl | ⟨n0, n1, n2, n3, n4, n5, n6, n7, n8⟩
  · simp (decide := true) only [↓reduceIte, ↓r63_0, ↓r63_1, ↓r63_28, ↓r63_29, ↓r63_32, ↓r63_35, ↓r63_36, ↓r63_37, ↓r63_40, ↓r63_43, ↓r63_44, ↓r63_45, ↓r63_46, ↓r63_47, ↓r63_50, ↓r63_53, ↓r63_54, ↓r63_57, ↓r63_60, ↓r63_61, ↓r63_62, ↓r63_65, ↓r63_67, zc_10, zc_18, zc_26, zc_0, zc_1, zc_7, zc_60, Nat.reduceAdd, true_and, Option.toList, List.cons_append, List.nil_append, c103, zl_16, zoks, zixs, u0]
    refine zPo_in rfl rfl ?_
    rw [m131]
    simp (decide := true) only [↓reduceIte, ↓r131_0, ↓r131_1, ↓r131_2, ↓r131_3, ↓r131_6, ↓r131_9, ↓r131_12, ↓r131_14, ↓r131_15, ↓r131_16, ↓r131_18, ↓r131_21, ↓r131_22, ↓r131_25, ↓r131_27, ↓r131_28, ↓r131_29, ↓r131_30, ↓r131_33, ↓r131_34, ↓r131_36, ↓r131_39, ↓r131_40, ↓r131_43, ↓r131_46, ↓r131_47, ↓r131_50, zc_10, zc_18, zc_26, zc_0, zc_1, zc_7, zc_60, Nat.reduceAdd, true_and, Option.toList, List.cons_append, List.nil_append, c106, zl_61, zok6, zoks, zixs, kadd6]
    exact zPq_in rfl (hQ _ _ hR0 rfl rfl)
  · simp (decide := true) only [↓reduceIte, ↓r63_0, ↓r63_1, ↓r63_28, ↓r63_29, ↓r63_32, ↓r63_35, ↓r63_36, ↓r63_37, ↓r63_40, ↓r63_43, ↓r63_44, ↓r63_45, ↓r63_46, ↓r63_47, ↓r63_50, ↓r63_53, ↓r63_54, ↓r63_57, ↓r63_60, ↓r63_61, ↓r63_62, ↓r63_65, ↓r63_67, zc_10, zc_18, zc_26, zc_0, zc_1, zc_7, zc_60, Nat.reduceAdd, true_and, Option.toList, List.cons_append, List.nil_append, c103, zl_16, zoks, zixs, u1]
    refine zPo_in rfl rfl ?_
    rw [m131]
    simp (decide := true) only [↓reduceIte, ↓r131_0, ↓r131_1, ↓r131_2, ↓r131_3, ↓r131_6, ↓r131_9, ↓r131_12, ↓r131_14, ↓r131_15, ↓r131_16, ↓r131_18, ↓r131_21, ↓r131_22, ↓r131_25, ↓r131_27, ↓r131_28, ↓r131_29, ↓r131_30, ↓r131_33, ↓r131_34, ↓r131_36, ↓r131_39, ↓r131_40, ↓r131_43, ↓r131_46, ↓r131_47, ↓r131_50, zc_10, zc_18, zc_26, zc_0, zc_1, zc_7, zc_60, Nat.reduceAdd, true_and, Option.toList, List.cons_append, List.nil_append, c106, zl_61, zok6, zoks, zixs, kadd6]
    exact zPq_in rfl (hQ _ _ hR0 rfl rfl)
  · simp (decide := true) only [↓reduceIte, ↓r63_0, ↓r63_1, ↓r63_28, ↓r63_29, ↓r63_32, ↓r63_35, ↓r63_36, ↓r63_37, ↓r63_40, ↓r63_43, ↓r63_44, ↓r63_45, ↓r63_46, ↓r63_47, ↓r63_50, ↓r63_53, ↓r63_54, ↓r63_57, ↓r63_60, ↓r63_61, ↓r63_62, ↓r63_65, ↓r63_67, zc_10, zc_18, zc_26, zc_0, zc_1, zc_7, zc_60, Nat.reduceAdd, true_and, Option.toList, List.cons_append, List.nil_append, c103, zl_16, zoks, zixs, u2]
    refine zPo_in rfl rfl ?_
    rw [m131]
    simp (decide := true) only [↓reduceIte, ↓r131_0, ↓r131_1, ↓r131_2, ↓r131_3, ↓r131_6, ↓r131_9, ↓r131_12, ↓r131_14, ↓r131_15, ↓r131_16, ↓r131_18, ↓r131_21, ↓r131_22, ↓r131_25, ↓r131_27, ↓r131_28, ↓r131_29, ↓r131_30, ↓r131_33, ↓r131_34, ↓r131_36, ↓r131_39, ↓r131_40, ↓r131_43, ↓r131_46, ↓r131_47, ↓r131_50, zc_10, zc_18, zc_26, zc_0, zc_1, zc_7, zc_60, Nat.reduceAdd, true_and, Option.toList, List.cons_append, List.nil_append, c106, zl_61, zok6, zoks, zixs, kadd6]
    exact zPq_in rfl (hQ _ _ hR0 rfl rfl)
  · simp (decide := true) only [↓reduceIte, ↓r63_0, ↓r63_1, ↓r63_28, ↓r63_29, ↓r63_32, ↓r63_35, ↓r63_36, ↓r63_37, ↓r63_40, ↓r63_43, ↓r63_44, ↓r63_45, ↓r63_46, ↓r63_47, ↓r63_50, ↓r63_53, ↓r63_54, ↓r63_57, ↓r63_60, ↓r63_61, ↓r63_62, ↓r63_65, ↓r63_67, zc_10, zc_18, zc_26, zc_0, zc_1, zc_7, zc_60, Nat.reduceAdd, true_and, Option.toList, List.cons_append, List.nil_append, c103, zl_16, zoks, zixs, u3]
    refine zPo_in rfl rfl ?_
    rw [m131]
    simp (decide := true) only [↓reduceIte, ↓r131_0, ↓r131_1, ↓r131_2, ↓r131_3, ↓r131_6, ↓r131_9, ↓r131_12, ↓r131_14, ↓r131_15, ↓r131_16, ↓r131_18, ↓r131_21, ↓r131_22, ↓r131_25, ↓r131_27, ↓r131_28, ↓r131_29, ↓r131_30, ↓r131_33, ↓r131_34, ↓r131_36, ↓r131_39, ↓r131_40, ↓r131_43, ↓r131_46, ↓r131_47, ↓r131_50, zc_10, zc_18, zc_26, zc_0, zc_1, zc_7, zc_60, Nat.reduceAdd, true_and, Option.toList, List.cons_append, List.nil_append, c106, zl_61, zok6, zoks, zixs, kadd6]
    exact zPq_in rfl (hQ _ _ hR0 rfl rfl)
  · simp (decide := true) only [↓reduceIte, ↓r63_0, ↓r63_1, ↓r63_28, ↓r63_29, ↓r63_32, ↓r63_35, ↓r63_36, ↓r63_37, ↓r63_40, ↓r63_43, ↓r63_44, ↓r63_45, ↓r63_46, ↓r63_47, ↓r63_50, ↓r63_53, ↓r63_54, ↓r63_57, ↓r63_60, ↓r63_61, ↓r63_62, ↓r63_65, ↓r63_67, zc_10, zc_18, zc_26, zc_0, zc_1, zc_7, zc_60, Nat.reduceAdd, true_and, Option.toList, List.cons_append, List.nil_append, c103, zl_16, zoks, zixs, u4]
    refine zPo_in rfl rfl ?_
    rw [m131]
    simp (decide := true) only [↓reduceIte, ↓r131_0, ↓r131_1, ↓r131_2, ↓r131_3, ↓r131_6, ↓r131_9, ↓r131_12, ↓r131_14, ↓r131_15, ↓r131_16, ↓r131_18, ↓r131_21, ↓r131_22, ↓r131_25, ↓r131_27, ↓r131_28, ↓r131_29, ↓r131_30, ↓r131_33, ↓r131_34, ↓r131_36, ↓r131_39, ↓r131_40, ↓r131_43, ↓r131_46, ↓r131_47, ↓r131_50, zc_10, zc_18, zc_26, zc_0, zc_1, zc_7, zc_60, Nat.reduceAdd, true_and, Option.toList, List.cons_append, List.nil_append, c106, zl_61, zok6, zoks, zixs, kadd6]
    exact zPq_in rfl (hQ _ _ hR0 rfl rfl)
  · simp (decide := true) only [↓reduceIte, ↓r63_0, ↓r63_1, ↓r63_28, ↓r63_29, ↓r63_32, ↓r63_35, ↓r63_36, ↓r63_37, ↓r63_40, ↓r63_43, ↓r63_44, ↓r63_45, ↓r63_46, ↓r63_47, ↓r63_50, ↓r63_53, ↓r63_54, ↓r63_57, ↓r63_60, ↓r63_61, ↓r63_62, ↓r63_65, ↓r63_67, zc_10, zc_18, zc_26, zc_0, zc_1, zc_7, zc_60, Nat.reduceAdd, true_and, Option.toList, List.cons_append, List.nil_append, c103, zl_16, zoks, zixs, u5]
    refine zPo_in rfl rfl ?_
    rw [m131]
    simp (decide := true) only [↓reduceIte, ↓r131_0, ↓r131_1, ↓r131_2, ↓r131_3, ↓r131_6, ↓r131_9, ↓r131_12, ↓r131_14, ↓r131_15, ↓r131_16, ↓r131_18, ↓r131_21, ↓r131_22, ↓r131_25, ↓r131_27, ↓r131_28, ↓r131_29, ↓r131_30, ↓r131_33, ↓r131_34, ↓r131_36, ↓r131_39, ↓r131_40, ↓r131_43, ↓r131_46, ↓r131_47, ↓r131_50, zc_10, zc_18, zc_26, zc_0, zc_1, zc_7, zc_60, Nat.reduceAdd, true_and, Option.toList, List.cons_append, List.nil_append, c106, zl_61, zok6, zoks, zixs, kadd6]
    exact zPq_in rfl (hQ _ _ hR0 rfl rfl)
  · simp (decide := true) only [↓reduceIte, ↓r63_0, ↓r63_1, ↓r63_28, ↓r63_29, ↓r63_32, ↓r63_35, ↓r63_36, ↓r63_37, ↓r63_40, ↓r63_43, ↓r63_44, ↓r63_45, ↓r63_46, ↓r63_47, ↓r63_50, ↓r63_53, ↓r63_54, ↓r63_57, ↓r63_60, ↓r63_61, ↓r63_62, ↓r63_65, ↓r63_67, zc_10, zc_18, zc_26, zc_0, zc_1, zc_7, zc_60, Nat.reduceAdd, true_and, Option.toList, List.cons_append, List.nil_append, c46 zst10 k1 k2, u1]
    refine zPo_in rfl rfl ?_
    rw [m131]
    simp (decide := true) only [↓reduceIte, ↓r131_0, ↓r131_1, ↓r131_2, ↓r131_3, ↓r131_6, ↓r131_9, ↓r131_12, ↓r131_14, ↓r131_15, ↓r131_16, ↓r131_18, ↓r131_21, ↓r131_22, ↓r131_25, ↓r131_27, ↓r131_28, ↓r131_29, ↓r131_30, ↓r131_33, ↓r131_34, ↓r131_36, ↓r131_39, ↓r131_40, ↓r131_43, ↓r131_46, ↓r131_47, ↓r131_50, zc_10, zc_18, zc_26, zc_0, zc_1, zc_7, zc_60, Nat.reduceAdd, true_and, Option.toList, List.cons_append, List.nil_append, c106, c129]
    exact zPq_in rfl (hQ _ _ hR0 rfl rfl)
  · simp (decide := true) only [↓reduceIte, ↓r63_0, ↓r63_1, ↓r63_28, ↓r63_29, ↓r63_32, ↓r63_35, ↓r63_36, ↓r63_37, ↓r63_40, ↓r63_43, ↓r63_44, ↓r63_45, ↓r63_46, ↓r63_47, ↓r63_50, ↓r63_53, ↓r63_54, ↓r63_57, ↓r63_60, ↓r63_61, ↓r63_62, ↓r63_65, ↓r63_67, zc_10, zc_18, zc_26, zc_0, zc_1, zc_7, zc_60, Nat.reduceAdd, true_and, Option.toList, List.cons_append, List.nil_append, c47 zst10 k1 k2 k3 k4, u1, u3]
    refine zPo_in rfl rfl ?_
    rw [m131]
    simp (decide := true) only [↓reduceIte, ↓r131_0, ↓r131_1, ↓r131_2, ↓r131_3, ↓r131_6, ↓r131_9, ↓r131_12, ↓r131_14, ↓r131_15, ↓r131_16, ↓r131_18, ↓r131_21, ↓r131_22, ↓r131_25, ↓r131_27, ↓r131_28, ↓r131_29, ↓r131_30, ↓r131_33, ↓r131_34, ↓r131_36, ↓r131_39, ↓r131_40, ↓r131_43, ↓r131_46, ↓r131_47, ↓r131_50, zc_10, zc_18, zc_26, zc_0, zc_1, zc_7, zc_60, Nat.reduceAdd, true_and, Option.toList, List.cons_append, List.nil_append, c106, c130 b5.1 b5.2 b6.1 b6.2]
    exact zPq_in rfl (hQ _ _ hR0 rfl rfl)
  · simp (decide := true) only [↓reduceIte, ↓r63_0, ↓r63_1, ↓r63_28, ↓r63_29, ↓r63_32, ↓r63_35, ↓r63_36, ↓r63_37, ↓r63_40, ↓r63_43, ↓r63_44, ↓r63_45, ↓r63_46, ↓r63_47, ↓r63_50, ↓r63_53, ↓r63_54, ↓r63_57, ↓r63_60, ↓r63_61, ↓r63_62, ↓r63_65, ↓r63_67, zc_10, zc_18, zc_26, zc_0, zc_1, zc_7, zc_60, Nat.reduceAdd, true_and, Option.toList, List.cons_append, List.nil_append, c103]
    refine zPo_in rfl rfl ?_
    rw [m131]
    simp (decide := true) only [↓reduceIte, ↓r131_0, ↓r131_1, ↓r131_2, ↓r131_3, ↓r131_6, ↓r131_9, ↓r131_12, ↓r131_14, ↓r131_15, ↓r131_16, ↓r131_18, ↓r131_21, ↓r131_22, ↓r131_25, ↓r131_27, ↓r131_28, ↓r131_29, ↓r131_30, ↓r131_33, ↓r131_34, ↓r131_36, ↓r131_39, ↓r131_40, ↓r131_43, ↓r131_46, ↓r131_47, ↓r131_50, zc_10, zc_18, zc_26, zc_0, zc_1, zc_7, zc_60, Nat.reduceAdd, true_and, Option.toList, List.cons_append, List.nil_append, c106]
    exact zPq_in rfl (hQ _ _ hR0 rfl rfl)
  · have g1 : ¬ (0 ≤ x0 ∧ x0 ≤ 5) := by grind
    have g2 : ¬ (0 ≤ x0 ∧ x0 ≤ 7) := by grind
    simp (decide := true) only [↓reduceIte, ↓r63_0, ↓r63_1, ↓r63_28, ↓r63_29, ↓r63_32, ↓r63_35, ↓r63_36, ↓r63_37, ↓r63_40, ↓r63_43, ↓r63_44, ↓r63_45, ↓r63_46, ↓r63_47, ↓r63_50, ↓r63_53, ↓r63_54, ↓r63_57, ↓r63_60, ↓r63_61, ↓r63_62, ↓r63_65, ↓r63_67, zc_10, zc_18, zc_26, zc_0, zc_1, zc_7, zc_60, Nat.reduceAdd, true_and, Option.toList, List.cons_append, List.nil_append, c103, if_neg n6, if_neg n7, if_neg g1]
    refine zPo_in rfl rfl ?_
    rw [m131]
    simp (decide := true) only [↓reduceIte, ↓r131_0, ↓r131_1, ↓r131_2, ↓r131_3, ↓r131_6, ↓r131_9, ↓r131_12, ↓r131_14, ↓r131_15, ↓r131_16, ↓r131_18, ↓r131_21, ↓r131_22, ↓r131_25, ↓r131_27, ↓r131_28, ↓r131_29, ↓r131_30, ↓r131_33, ↓r131_34, ↓r131_36, ↓r131_39, ↓r131_40, ↓r131_43, ↓r131_46, ↓r131_47, ↓r131_50, zc_10, zc_18, zc_26, zc_0, zc_1, zc_7, zc_60, Nat.reduceAdd, true_and, Option.toList, List.cons_append, List.nil_append, c106, if_neg g2]
    exact zPq_in rfl (hQ _ _ hR0 rfl rfl)
theorem zk_81 : zkon 81 0 = 0 ∧ zkon 81 1 = 0 ∧ zkon 81 2 = 1 ∧ zkon 81 3 = 0 ∧ zkon 81 4 = 1 ∧ zkon 81 5 = 0 := by decide
theorem zk_82 : zkon 82 0 = 1 ∧ zkon 82 1 = 90 ∧ zkon 82 2 = 20 ∧ zkon 82 3 = 99 ∧ zkon 82 4 = 9999 ∧ zkon 82 5 = 10 := by decide
theorem p_rule_j {lo hi : Int32} (hj : j < 6) (e0 : x0 = nI j) (e1 : zkon 81 j = lo) (e2 : zkon 82 j = hi) (hb : ∀ v, lo ≤ v ∧ v ≤ hi → (j = 0 ∧ (v = 0 ∨ v = 1)) ∨ (j = 1 ∧ 0 ≤ v ∧ v ≤ 90) ∨ j = 2 ∨ (j = 3 ∧ 0 ≤ v ∧ v ≤ 99) ∨ j = 4 ∨ j = 5) (hm0 : ∀ (h : zH) (Q : Option Value → zH → Prop), zM (d + 20) 133 [.ref 60, .int x0, .int x1] h Q = if lo ≤ x1 ∧ x1 ≤ hi then Q (some (.int (h 61 (6 + j)))) (zhr h 61 (upd (h 61) (6 + j) x1)) else Q (some (.int (-1000000001))) h) : zPair (d + 20) (d + 20) 64 133 [.int x0, .int x1] := by
  intro h Q2 hR hQ
  have hR0 := hR
  obtain ⟨n, m, N, hRN⟩ := hR
  obtain ⟨⟨hSt, hm⟩, -⟩ := id hRN
  obtain ⟨-, ⟨u0, u1, u2, u3, u4, u5⟩, -⟩ := hSt.1
  have hu : h 16 j = h 61 (6 + j) := by
    rcases (by omega : j = 0 ∨ j = 1 ∨ j = 2 ∨ j = 3 ∨ j = 4 ∨ j = 5) with rfl | rfl | rfl | rfl | rfl | rfl <;> assumption
  have g : 0 ≤ nI j ∧ nI j ≤ 5 := by
    have := hasI (n := 6) hj (by omega)
    exact ⟨this.1, nI_le (b := 5) (by omega) (by omega)⟩
  subst e0
  rw [m64]
  simp only [↓r64_0, ↓r64_1, ↓r64_2, ↓r64_3, ↓r64_6, ↓r64_9, ↓r64_11, ↓r64_12, ↓r64_13, ↓r64_16, ↓r64_19, ↓r64_20, ↓r64_21, ↓r64_24, ↓r64_25, ↓r64_26, ↓r64_29, ↓r64_30, ↓r64_31, ↓r64_34, zc_10, zc_18, zc_26, zc_0, zc_1, zc_7, zc_60, Nat.reduceAdd, true_and, c103, if_pos g, Option.toList, List.cons_append, List.nil_append, zl_81, zl_82, zok_nI hj (by omega), zix_nI (by omega : j < 2 ^ 31), e1, e2, c105_16 hj]
  rw [if_neg (by decide)]
  by_cases g2 : lo ≤ x1 ∧ x1 ≤ hi
  · rw [if_pos g2]
    refine zPo_in rfl rfl ?_
    rw [hm0, if_pos g2]
    exact zPq_in hu.symm (hQ _ _ ⟨n, m, N, zRel_rule hRN (hb _ g2)⟩ rfl rfl)
  · rw [if_neg g2]
    refine zPo_in rfl rfl ?_
    rw [hm0, if_neg g2]
    exact zPq_in rfl (hQ _ _ hR0 rfl rfl)
theorem p_rule : zPair (d + 20) (d + 20) 64 133 [.int x0, .int x1] := by
  rcases sw9 x0 with e | e | e | e | e | e | e | e | e | ⟨n0, n1, n2, n3, n4, n5, n6, n7, n8⟩
  · refine p_rule_j (j := 0) (by omega) e zk_81.1 zk_82.1 (fun v g => Or.inl ⟨rfl, b01_of g⟩) fun h Q => ?_
    subst e
    rw [m133]
    simp (decide := true) only [↓reduceIte, ↓r133_0, ↓r133_1, ↓r133_2, ↓r133_3, ↓r133_6, ↓r133_9, ↓r133_12, ↓r133_13, ↓r133_14, ↓r133_15, ↓r133_16, ↓r133_19, ↓r133_20, ↓r133_21, ↓r133_24, ↓r133_25, ↓r133_28, ↓r133_29, ↓r133_30, ↓r133_33, ↓r133_34, ↓r133_37, ↓r133_40, ↓r133_42, ↓r133_43, ↓r133_44, ↓r133_46, ↓r133_47, ↓r133_48, ↓r133_49, ↓r133_52, Option.toList, List.cons_append, List.nil_append, c106, m132, ↓r132_0, ↓r132_1, ↓r132_36, ↓r132_37, ↓r132_38, ↓r132_40, ↓r132_41, ↓r132_43, ↓r132_44, ↓r132_46, ↓r132_47, ↓r132_50, ↓r132_51, ↓r132_53, kadd6, c111, zok6, zix6, true_and]
  · refine p_rule_j (j := 1) (by omega) e zk_81.2.1 zk_82.2.1 (fun v g => Or.inr (Or.inl ⟨rfl, g⟩)) fun h Q => ?_
    subst e
    rw [m133]
    simp (decide := true) only [↓reduceIte, ↓r133_0, ↓r133_1, ↓r133_2, ↓r133_3, ↓r133_6, ↓r133_9, ↓r133_12, ↓r133_13, ↓r133_14, ↓r133_15, ↓r133_16, ↓r133_19, ↓r133_20, ↓r133_21, ↓r133_24, ↓r133_25, ↓r133_28, ↓r133_29, ↓r133_30, ↓r133_33, ↓r133_34, ↓r133_37, ↓r133_40, ↓r133_42, ↓r133_43, ↓r133_44, ↓r133_46, ↓r133_47, ↓r133_48, ↓r133_49, ↓r133_52, Option.toList, List.cons_append, List.nil_append, c106, m132, ↓r132_0, ↓r132_1, ↓r132_36, ↓r132_37, ↓r132_38, ↓r132_40, ↓r132_41, ↓r132_43, ↓r132_44, ↓r132_46, ↓r132_47, ↓r132_50, ↓r132_51, ↓r132_53, kadd6, c111, zoks, zixs, true_and]
  · refine p_rule_j (j := 2) (by omega) e zk_81.2.2.1 zk_82.2.2.1 (fun v g => Or.inr (Or.inr (Or.inl rfl))) fun h Q => ?_
    subst e
    rw [m133]
    simp (decide := true) only [↓reduceIte, ↓r133_0, ↓r133_1, ↓r133_2, ↓r133_3, ↓r133_6, ↓r133_9, ↓r133_12, ↓r133_13, ↓r133_14, ↓r133_15, ↓r133_16, ↓r133_19, ↓r133_20, ↓r133_21, ↓r133_24, ↓r133_25, ↓r133_28, ↓r133_29, ↓r133_30, ↓r133_33, ↓r133_34, ↓r133_37, ↓r133_40, ↓r133_42, ↓r133_43, ↓r133_44, ↓r133_46, ↓r133_47, ↓r133_48, ↓r133_49, ↓r133_52, Option.toList, List.cons_append, List.nil_append, c106, m132, ↓r132_0, ↓r132_1, ↓r132_36, ↓r132_37, ↓r132_38, ↓r132_40, ↓r132_41, ↓r132_43, ↓r132_44, ↓r132_46, ↓r132_47, ↓r132_50, ↓r132_51, ↓r132_53, kadd6, c111, zok6, zix6, true_and]
  · refine p_rule_j (j := 3) (by omega) e zk_81.2.2.2.1 zk_82.2.2.2.1 (fun v g => Or.inr (Or.inr (Or.inr (Or.inl ⟨rfl, g⟩)))) fun h Q => ?_
    subst e
    rw [m133]
    simp (decide := true) only [↓reduceIte, ↓r133_0, ↓r133_1, ↓r133_2, ↓r133_3, ↓r133_6, ↓r133_9, ↓r133_12, ↓r133_13, ↓r133_14, ↓r133_15, ↓r133_16, ↓r133_19, ↓r133_20, ↓r133_21, ↓r133_24, ↓r133_25, ↓r133_28, ↓r133_29, ↓r133_30, ↓r133_33, ↓r133_34, ↓r133_37, ↓r133_40, ↓r133_42, ↓r133_43, ↓r133_44, ↓r133_46, ↓r133_47, ↓r133_48, ↓r133_49, ↓r133_52, Option.toList, List.cons_append, List.nil_append, c106, m132, ↓r132_0, ↓r132_1, ↓r132_36, ↓r132_37, ↓r132_38, ↓r132_40, ↓r132_41, ↓r132_43, ↓r132_44, ↓r132_46, ↓r132_47, ↓r132_50, ↓r132_51, ↓r132_53, kadd6, c111, zoks, zixs, true_and]
  · refine p_rule_j (j := 4) (by omega) e zk_81.2.2.2.2.1 zk_82.2.2.2.2.1 (fun v g => Or.inr (Or.inr (Or.inr (Or.inr (Or.inl rfl))))) fun h Q => ?_
    subst e
    rw [m133]
    simp (decide := true) only [↓reduceIte, ↓r133_0, ↓r133_1, ↓r133_2, ↓r133_3, ↓r133_6, ↓r133_9, ↓r133_12, ↓r133_13, ↓r133_14, ↓r133_15, ↓r133_16, ↓r133_19, ↓r133_20, ↓r133_21, ↓r133_24, ↓r133_25, ↓r133_28, ↓r133_29, ↓r133_30, ↓r133_33, ↓r133_34, ↓r133_37, ↓r133_40, ↓r133_42, ↓r133_43, ↓r133_44, ↓r133_46, ↓r133_47, ↓r133_48, ↓r133_49, ↓r133_52, Option.toList, List.cons_append, List.nil_append, c106, m132, ↓r132_0, ↓r132_1, ↓r132_36, ↓r132_37, ↓r132_38, ↓r132_40, ↓r132_41, ↓r132_43, ↓r132_44, ↓r132_46, ↓r132_47, ↓r132_50, ↓r132_51, ↓r132_53, kadd6, c111, zok6, zix6, true_and]
  · refine p_rule_j (j := 5) (by omega) e zk_81.2.2.2.2.2 zk_82.2.2.2.2.2 (fun v g => Or.inr (Or.inr (Or.inr (Or.inr (Or.inr rfl))))) fun h Q => ?_
    subst e
    rw [m133]
    simp (decide := true) only [↓reduceIte, ↓r133_0, ↓r133_1, ↓r133_2, ↓r133_3, ↓r133_6, ↓r133_9, ↓r133_12, ↓r133_13, ↓r133_14, ↓r133_15, ↓r133_16, ↓r133_19, ↓r133_20, ↓r133_21, ↓r133_24, ↓r133_25, ↓r133_28, ↓r133_29, ↓r133_30, ↓r133_33, ↓r133_34, ↓r133_37, ↓r133_40, ↓r133_42, ↓r133_43, ↓r133_44, ↓r133_46, ↓r133_47, ↓r133_48, ↓r133_49, ↓r133_52, Option.toList, List.cons_append, List.nil_append, c106, m132, ↓r132_0, ↓r132_1, ↓r132_36, ↓r132_37, ↓r132_38, ↓r132_40, ↓r132_41, ↓r132_43, ↓r132_44, ↓r132_46, ↓r132_47, ↓r132_50, ↓r132_51, ↓r132_53, kadd6, c111, zok6, zix6, true_and]
  all_goals
    intro h Q2 hR hQ
    have g1 : ¬ (0 ≤ x0 ∧ x0 ≤ 5) := by grind
    rw [m64]
    simp only [↓r64_0, ↓r64_1, ↓r64_2, ↓r64_3, ↓r64_6, ↓r64_9, ↓r64_11, ↓r64_12, ↓r64_13, ↓r64_16, ↓r64_19, ↓r64_20, ↓r64_21, ↓r64_24, ↓r64_25, ↓r64_26, ↓r64_29, ↓r64_30, ↓r64_31, ↓r64_34, zc_10, zc_18, zc_26, zc_0, zc_1, zc_7, zc_60, Nat.reduceAdd, true_and, c103, if_neg g1, Option.toList, List.cons_append, List.nil_append, if_true]
    refine zPo_in rfl rfl ?_
    rw [m133]
    simp only [↓r133_0, ↓r133_1, ↓r133_2, ↓r133_3, ↓r133_6, ↓r133_9, ↓r133_12, ↓r133_13, ↓r133_14, ↓r133_15, ↓r133_16, ↓r133_19, ↓r133_20, ↓r133_21, ↓r133_24, ↓r133_25, ↓r133_28, ↓r133_29, ↓r133_30, ↓r133_33, ↓r133_34, ↓r133_37, ↓r133_40, ↓r133_42, ↓r133_43, ↓r133_44, ↓r133_46, ↓r133_47, ↓r133_48, ↓r133_49, ↓r133_52, zc_10, zc_18, zc_26, zc_0, zc_1, zc_7, zc_60, Nat.reduceAdd, true_and, c106, if_neg g1, Option.toList, List.cons_append, List.nil_append, if_true]
    exact zPq_in rfl (hQ _ _ hR rfl rfl)
theorem p_pull : zPair (d + 20) (d + 20) 65 135 [.int x0] := by
  intro h Q2 hR hQ
  have hR0 := hR
  obtain ⟨n, m, N, hRN⟩ := hR
  obtain ⟨⟨hSt, hm⟩, -⟩ := id hRN
  obtain ⟨-, ⟨u0, u1, u2, u3, u4, u5⟩, -⟩ := hSt.1
  obtain ⟨hTC, hTR⟩ := zSt_tau hSt
  rw [m65]
  simp only [↓r65_0, ↓r65_1, ↓r65_2, ↓r65_5, ↓r65_8, ↓r65_11, ↓r65_12, ↓r65_15, ↓r65_16, ↓r65_19, ↓r65_22, ↓r65_23, ↓r65_24, ↓r65_25, ↓r65_28, ↓r65_31, ↓r65_33, zc_10, zc_18, zc_26, zc_0, zc_1, zc_7, zc_60, Nat.reduceAdd, true_and, c103, Option.toList, List.cons_append, List.nil_append]
  by_cases g : 0 ≤ x0 ∧ x0 ≤ 999
  · simp only [if_pos g, zl_16, zoks, zixs, u3, true_and]
    rw [if_neg (by decide)]
    refine d45 zst10 hTC fun h1 e1 => ?_
    rw [u1]
    simp only [↓r65_0, ↓r65_1, ↓r65_2, ↓r65_5, ↓r65_8, ↓r65_11, ↓r65_12, ↓r65_15, ↓r65_16, ↓r65_19, ↓r65_22, ↓r65_23, ↓r65_24, ↓r65_25, ↓r65_28, ↓r65_31, ↓r65_33, Option.toList, List.cons_append, List.nil_append]
    refine zPo_in (e1 _ (by omega)) (e1 _ (by omega)) ?_
    have e61 : h1 61 = h 61 := e1 _ (by omega)
    rw [m135]
    simp only [↓r135_0, ↓r135_1, ↓r135_2, ↓r135_3, ↓r135_6, ↓r135_9, ↓r135_12, ↓r135_13, ↓r135_14, ↓r135_17, ↓r135_20, ↓r135_22, zc_10, zc_18, zc_26, zc_0, zc_1, zc_7, zc_60, Nat.reduceAdd, true_and, c106, if_pos g, Option.toList, List.cons_append, List.nil_append]
    rw [if_neg (by decide)]
    refine d134 (zTR_same e61 hTR) fun h2 e2 => ?_
    simp only [↓r135_0, ↓r135_1, ↓r135_2, ↓r135_3, ↓r135_6, ↓r135_9, ↓r135_12, ↓r135_13, ↓r135_14, ↓r135_17, ↓r135_20, ↓r135_22, Option.toList, List.cons_append, List.nil_append, e61]
    exact zPq_in rfl (hQ _ _ ⟨n, m, N, zRel_keep hRN (fun c a b d => (e2 c b d).trans (e1 c a))⟩ ((e2 _ (by omega) (by omega)).trans (e1 _ (by omega))) ((e2 _ (by omega) (by omega)).trans (e1 _ (by omega))))
  · simp only [if_neg g, if_true]
    refine zPo_in rfl rfl ?_
    rw [m135]
    simp only [↓r135_0, ↓r135_1, ↓r135_2, ↓r135_3, ↓r135_6, ↓r135_9, ↓r135_12, ↓r135_13, ↓r135_14, ↓r135_17, ↓r135_20, ↓r135_22, zc_10, zc_18, zc_26, zc_0, zc_1, zc_7, zc_60, Nat.reduceAdd, true_and, c106, if_neg g, Option.toList, List.cons_append, List.nil_append, if_true]
    exact zPq_in rfl (hQ _ _ hR0 rfl rfl)
theorem p_loading : zPair (d + 20) (d + 20) 66 138 [] := by
  intro h Q2 hR hQ
  have hR0 := hR
  obtain ⟨n, m, N, hRN⟩ := hR
  obtain ⟨⟨hSt, hm⟩, hu, -⟩ := id hRN
  obtain ⟨⟨hn, h10⟩, -⟩ := hSt.2.1
  obtain ⟨hTC, hTR⟩ := zSt_tau hSt
  rw [m66]
  simp only [↓r66_0, ↓r66_1, ↓r66_4, ↓r66_7, zc_10, zc_18, zc_26, zc_0, zc_1, zc_7, zc_60, Nat.reduceAdd, true_and, Option.toList, List.cons_append, List.nil_append]
  refine c48 zst10 hSt.1 hn h10 hTC fun h1 e1 => ?_
  simp only [↓r66_0, ↓r66_1, ↓r66_4, ↓r66_7, Option.toList, List.cons_append, List.nil_append]
  refine zPo_in (e1 _ (by omega)) (e1 _ (by omega)) ?_
  have e61 : h1 61 = h 61 := e1 _ (by omega)
  have e60 : h1 60 = h 60 := e1 _ (by omega)
  rw [m138]
  simp only [↓r138_0, ↓r138_1, ↓r138_4, Option.toList, List.cons_append, List.nil_append]
  refine c137 (by rw [e61]; exact hn) h10 (zTR_same e61 hTR) fun h2 e2 => ?_
  simp only [↓r138_0, ↓r138_1, ↓r138_4, Option.toList, List.cons_append, List.nil_append, e61, e60]
  exact zPq_in (by rw [hu, hSt.2.2.2.2.2]) (hQ _ _ ⟨n, m, N, zRel_keep hRN (fun c a b d => (e2 c b d).trans (e1 c a))⟩ ((e2 _ (by omega) (by omega)).trans (e1 _ (by omega))) ((e2 _ (by omega) (by omega)).trans (e1 _ (by omega))))
end
