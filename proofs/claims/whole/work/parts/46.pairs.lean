/-! pairs: fine, textTold, why, count, keep, back -/
section
variable {d : Nat} {x0 x1 x2 v : Int32} {h h' : zH} {n m N n' m' k w j f b c t : Nat} {s row row' : Nat → Int32} {Q : Option Value → zH → Prop} {τ : zTau} {u : Int32}
theorem c116 : zM (d + 2) 116 [.ref 60, .int x0] h Q = if 0 ≤ x0 ∧ x0 ≤ h 61 1 - 1 then Q (some (.int 1)) h else Q (some (.int 0)) h := by
  rw [m116]
  simp only [↓r116_0, ↓r116_1, ↓r116_2, ↓r116_3, ↓r116_4, ↓r116_7, ↓r116_8, ↓r116_9, ↓r116_10, ↓r116_11, ↓r116_12, ↓r116_15f, ↓r116_15t, zl_61, c106, Option.toList, List.cons_append, List.nil_append, zok1, zix1, true_and]
theorem tix (t w : Nat) : 62 + 200 * nI t + nI w = nI (62 + 200 * t + w) := by
  rw [show (62 : Int32) = nI 62 from rfl, show (200 : Int32) = nI 200 from rfl, pk_mul, nI_add, nI_add]
theorem hasT (h14 : N ≤ 24) (g : 0 ≤ x0 ∧ x0 ≤ nI N - 1) : ∃ t, t < N ∧ x0 = nI t := by
  obtain ⟨j, hj, e⟩ := nI_of (Int32.not_lt.mpr g.1)
  subst e
  have h1 : 0 < N := by
    rcases Nat.eq_zero_or_pos N with z | z
    · subst z
      exfalso
      have := g.2
      have h2 := g.1
      rw [nI_0] at this
      grind
    · exact z
  have h2 := g.2
  rw [nI_s1 h1, nI_leI hj (by omega)] at h2
  exact ⟨j, by omega, rfl⟩
theorem p_textTold : zPair (d + 20) (d + 20) 84 178 [.int x0, .int x1] := by
  intro h Q2 hR hQ
  have hR0 := hR
  obtain ⟨n, m, N, hRN⟩ := hR
  obtain ⟨⟨hSt, hm⟩, hu, -⟩ := id hRN
  obtain ⟨hN, h14⟩ := hSt.2.2.1
  have hN' : h 10 12 = nI N := hSt.1.1.2.1.trans hN
  rw [m84]
  simp only [↓r84_0, ↓r84_1, ↓r84_2, ↓r84_3, ↓r84_6, ↓r84_9, ↓r84_10, ↓r84_11, ↓r84_14, ↓r84_17, ↓r84_19, ↓r84_20, ↓r84_48, ↓r84_49, ↓r84_52, ↓r84_55, ↓r84_56, ↓r84_57, ↓r84_58, ↓r84_59, ↓r84_62, ↓r84_65, ↓r84_66, ↓r84_67, ↓r84_68, ↓r84_70, zc_10, zc_18, zc_26, zc_0, zc_1, zc_7, zc_60, Nat.reduceAdd, true_and, c103, hN', Option.toList, List.cons_append, List.nil_append]
  by_cases g : 0 ≤ x0 ∧ x0 ≤ nI N - 1
  · obtain ⟨t, ht, rfl⟩ := hasT (by omega : N ≤ 24) g
    obtain ⟨key, mm, q1, q2, q3, q4, q5, q6, q7, q8, q9⟩ := hSt.2.2.2.2.1 t ht
    simp (decide := true) only [if_pos g, ↓reduceIte]
    by_cases s0 : x1 = 0
    · subst s0
      simp (decide := true) only [↓reduceIte, ↓r84_0, ↓r84_1, ↓r84_2, ↓r84_3, ↓r84_6, ↓r84_9, ↓r84_10, ↓r84_11, ↓r84_14, ↓r84_17, ↓r84_19, ↓r84_20, ↓r84_21, ↓r84_48, ↓r84_49, ↓r84_52, ↓r84_55, ↓r84_56, ↓r84_57, ↓r84_58, ↓r84_59, ↓r84_62, ↓r84_65, ↓r84_66, ↓r84_67, ↓r84_68, ↓r84_70, zc_10, zc_18, zc_26, zc_0, zc_1, zc_7, zc_60, Nat.reduceAdd, true_and, zl_2, zok_nI (by omega : t < 14) (by omega), zix_nI (by omega : t < 2 ^ 31), q3]
      refine zPo_in rfl rfl ?_
      rw [m178]
      have e : 62 + 200 * nI t + 0 = nI (62 + 200 * t + 0) := tix t 0
      simp (decide := true) only [↓r178_0, ↓r178_1, ↓r178_2, ↓r178_5, ↓r178_8, ↓r178_9, ↓r178_10, ↓r178_11, ↓r178_12, ↓r178_15, ↓r178_18, ↓r178_20, ↓r178_21, ↓r178_22, ↓r178_25, ↓r178_26, ↓r178_27, ↓r178_30, ↓r178_31, ↓r178_32, ↓r178_33, c116, hN, if_pos g, c106, c112, ↓reduceIte, Option.toList, List.cons_append, List.nil_append, zc_10, zc_18, zc_26, zc_0, zc_1, zc_7, zc_60, Nat.reduceAdd, true_and, zl_61, e, zok_nI (by omega : 62 + 200 * t + 0 < 3062) (by omega), zix_nI (by omega : 62 + 200 * t + 0 < 2 ^ 31)]
      exact zPq_in q4 (hQ _ _ hR0 rfl rfl)
    by_cases s1 : x1 = 1
    · subst s1
      simp (decide := true) only [↓reduceIte, ↓r84_0, ↓r84_1, ↓r84_2, ↓r84_3, ↓r84_6, ↓r84_9, ↓r84_10, ↓r84_11, ↓r84_14, ↓r84_17, ↓r84_19, ↓r84_20, ↓r84_21, ↓r84_48, ↓r84_49, ↓r84_52, ↓r84_55, ↓r84_56, ↓r84_57, ↓r84_58, ↓r84_59, ↓r84_62, ↓r84_65, ↓r84_66, ↓r84_67, ↓r84_68, ↓r84_70, zc_10, zc_18, zc_26, zc_0, zc_1, zc_7, zc_60, Nat.reduceAdd, true_and, zl_3, zok_nI (by omega : t < 14) (by omega), zix_nI (by omega : t < 2 ^ 31), q5]
      refine zPo_in rfl rfl ?_
      rw [m178]
      have e : 62 + 200 * nI t + 1 = nI (62 + 200 * t + 1) := tix t 1
      simp (decide := true) only [↓r178_0, ↓r178_1, ↓r178_2, ↓r178_5, ↓r178_8, ↓r178_9, ↓r178_10, ↓r178_11, ↓r178_12, ↓r178_15, ↓r178_18, ↓r178_20, ↓r178_21, ↓r178_22, ↓r178_25, ↓r178_26, ↓r178_27, ↓r178_30, ↓r178_31, ↓r178_32, ↓r178_33, c116, hN, if_pos g, c106, c112, ↓reduceIte, Option.toList, List.cons_append, List.nil_append, zc_10, zc_18, zc_26, zc_0, zc_1, zc_7, zc_60, Nat.reduceAdd, true_and, zl_61, e, zok_nI (by omega : 62 + 200 * t + 1 < 3062) (by omega), zix_nI (by omega : 62 + 200 * t + 1 < 2 ^ 31)]
      exact zPq_in rfl (hQ _ _ hR0 rfl rfl)
    · rw [r84_21]
      have g2 : ¬ (0 ≤ x1 ∧ x1 ≤ 1) := fun z => by rcases b01_of z with e | e <;> contradiction
      simp only [if_neg s0, if_neg s1, ↓r84_0, ↓r84_1, ↓r84_2, ↓r84_3, ↓r84_6, ↓r84_9, ↓r84_10, ↓r84_11, ↓r84_14, ↓r84_17, ↓r84_19, ↓r84_20, ↓r84_21, ↓r84_48, ↓r84_49, ↓r84_52, ↓r84_55, ↓r84_56, ↓r84_57, ↓r84_58, ↓r84_59, ↓r84_62, ↓r84_65, ↓r84_66, ↓r84_67, ↓r84_68, ↓r84_70, Option.toList, List.cons_append, List.nil_append]
      refine zPo_in rfl rfl ?_
      rw [m178]
      simp (decide := true) only [↓r178_0, ↓r178_1, ↓r178_2, ↓r178_5, ↓r178_8, ↓r178_9, ↓r178_10, ↓r178_11, ↓r178_12, ↓r178_15, ↓r178_18, ↓r178_20, ↓r178_21, ↓r178_22, ↓r178_25, ↓r178_26, ↓r178_27, ↓r178_30, ↓r178_31, ↓r178_32, ↓r178_33, c116, hN, if_pos g, c106, if_neg g2, ↓reduceIte, Option.toList, List.cons_append, List.nil_append]
      exact zPq_in rfl (hQ _ _ hR0 rfl rfl)
  · simp (decide := true) only [if_neg g, ↓reduceIte]
    refine zPo_in rfl rfl ?_
    rw [m178]
    simp (decide := true) only [↓r178_0, ↓r178_1, ↓r178_2, ↓r178_5, ↓r178_8, ↓r178_9, ↓r178_10, ↓r178_11, ↓r178_12, ↓r178_15, ↓r178_18, ↓r178_20, ↓r178_21, ↓r178_22, ↓r178_25, ↓r178_26, ↓r178_27, ↓r178_30, ↓r178_31, ↓r178_32, ↓r178_33, c116, hN, if_neg g, ↓reduceIte, Option.toList, List.cons_append, List.nil_append]
    exact zPq_in rfl (hQ _ _ hR0 rfl rfl)
theorem zSt_key (hSt : zSt h c row n m N) (hk : k < 3) : h (c + 7) k = lastT row (nI k) N ∧ (lastT row (nI k) N = -1 ∨ ∃ t, t < N ∧ lastT row (nI k) N = nI t) := by
  refine ⟨hSt.2.2.2.1 k hk, ?_⟩
  rcases lastT_in row (nI k) N hSt.2.2.1.2 with e | ⟨t, h1, h2, h3⟩
  · exact Or.inl e
  · exact Or.inr ⟨t, h1, h2⟩
theorem p_why : zPair (d + 20) (d + 20) 85 180 [.int x0] := by
  intro h Q2 hR hQ
  have hR0 := hR
  obtain ⟨n, m, N, hRN⟩ := hR
  obtain ⟨⟨hSt, hm⟩, hu, -⟩ := id hRN
  obtain ⟨hN, h14⟩ := hSt.2.2.1
  rw [m85]
  simp only [↓r85_0, ↓r85_1, ↓r85_2, ↓r85_3, ↓r85_6, ↓r85_9, ↓r85_11, ↓r85_12, ↓r85_13, ↓r85_16, ↓r85_19, ↓r85_20, ↓r85_21, ↓r85_24, ↓r85_26, ↓r85_29, ↓r85_30, ↓r85_33, ↓r85_36, ↓r85_37, ↓r85_38, zc_10, zc_18, zc_26, zc_0, zc_1, zc_7, zc_60, Nat.reduceAdd, true_and, c103, Option.toList, List.cons_append, List.nil_append]
  by_cases g : 0 ≤ x0 ∧ x0 ≤ 2
  · obtain ⟨k, hk, rfl⟩ := nI_of2 (M := 2) (n := 2) (by decide) (Int32.not_lt.mpr g.1) g.2
    obtain ⟨e1, e2⟩ := zSt_key hSt (by omega : k < 3)
    have e1' : h 17 k = lastT (h 61) (nI k) N := e1
    simp (decide := true) only [if_pos g, ↓reduceIte, zl_17, zok_nI (by omega : k < 3) (by omega), zix_nI (by omega : k < 2 ^ 31), e1', true_and]
    have hr : ∀ (v : Int32), (if lastT (h 61) (nI k) N < 0 then -1000000005 else lastT (h 61) (nI k) N) = v → zPo h (d + 20) 180 [.int (nI k)] Q2 (some (.int v)) h := by
      intro v hv
      refine zPo_in rfl rfl ?_
      rw [m180]
      simp (decide := true) only [↓r180_0, ↓r180_1, ↓r180_2, ↓r180_3, ↓r180_6, ↓r180_9, ↓r180_12, ↓r180_13, ↓r180_14, ↓r180_17, ↓r180_20, ↓r180_23, ↓r180_25, c106, if_pos g, ↓reduceIte, Option.toList, List.cons_append, List.nil_append, c179 hN h14, c107, hv]
      exact zPq_in rfl (hQ _ _ hR0 rfl rfl)
    by_cases q : lastT (h 61) (nI k) N < 0
    · simp only [if_pos q]
      exact hr _ (if_pos q)
    · simp only [if_neg q]
      exact hr _ (if_neg q)
  · simp (decide := true) only [if_neg g, ↓reduceIte]
    refine zPo_in rfl rfl ?_
    rw [m180]
    simp (decide := true) only [↓r180_0, ↓r180_1, ↓r180_2, ↓r180_3, ↓r180_6, ↓r180_9, ↓r180_12, ↓r180_13, ↓r180_14, ↓r180_17, ↓r180_20, ↓r180_23, ↓r180_25, c106, if_neg g, ↓reduceIte, Option.toList, List.cons_append, List.nil_append]
    exact zPq_in rfl (hQ _ _ hR0 rfl rfl)
theorem p_fine : zPair (d + 20) (d + 20) 80 159 [] := by
  intro h Q2 hR hQ
  have hR0 := hR
  obtain ⟨n, m, N, hRN⟩ := hR
  obtain ⟨⟨hSt, hm⟩, hu, -⟩ := id hRN
  obtain ⟨hTC, hTR⟩ := zSt_tau hSt
  obtain ⟨hN, h14⟩ := hSt.2.2.1
  obtain ⟨n1, hn1, hs1, hkeys⟩ := hTR
  have v3 : h 10 8 = h 61 3 := hSt.1.1.2.2.2.1
  have v4 : h 10 9 = h 61 4 := hSt.1.1.2.2.2.2.1
  have zk2 : zok 2 3 = True := by unfold zok; decide
  obtain ⟨y1, y2, y3, y4, y5, y6, y7, y8⟩ := kN
  obtain ⟨w1, w2, w3, w4, w5, w6, w7, w8⟩ := kZ
  have c179' := fun (Q' : Option Value → zH → Prop) (h1 : zH) (e : h1 61 = h 61) => c179 (d := d + 17) (h := h1) (Q := Q') (x0 := 2) (by rw [e]; exact hs1) hn1
  rw [m80]
  simp only [↓r80_0, ↓r80_1, ↓r80_4, ↓r80_7, ↓r80_8, ↓r80_9, ↓r80_10, ↓r80_11, ↓r80_14, ↓r80_15, ↓r80_18, ↓r80_21, ↓r80_24, ↓r80_25, ↓r80_28, ↓r80_29, ↓r80_30, ↓r80_33, ↓r80_36, ↓r80_37, ↓r80_40, ↓r80_43, ↓r80_44, ↓r80_47, zc_10, zc_18, zc_26, zc_0, zc_1, zc_7, zc_60, Nat.reduceAdd, true_and, zl_17, zk2, zixs, Option.toList, List.cons_append, List.nil_append]
  rcases hTC 2 (by omega) with ⟨t1, t2⟩ | ⟨t, m1, g1, g2, g3, g4, g5⟩
  · have t1' : h 17 2 < 0 := t1
    simp only [if_pos t1', v4]
    refine zPo_in rfl rfl ?_
    rw [m159]
    simp only [↓r159_0, ↓r159_1, ↓r159_2, ↓r159_5, ↓r159_6, ↓r159_7, ↓r159_10, ↓r159_11, ↓r159_14, ↓r159_15, ↓r159_16, ↓r159_17, ↓r159_18, ↓r159_21, ↓r159_23, ↓r159_24, ↓r159_27, ↓r159_28, ↓r159_29, ↓r159_30, ↓r159_31, ↓r159_34, ↓r159_36, ↓r159_37, ↓r159_40, ↓r159_41, ↓r159_42, ↓r159_43, ↓r159_44, ↓r159_45, ↓r159_48, c179' _ h rfl, Option.toList, List.cons_append, List.nil_append]
    rcases hkeys 2 (by omega) with ⟨r1, r2⟩ | ⟨t', m', w', p1, p2, p3, p4, p5, p6, p7⟩
    · have r1' : lastT (h 61) 2 n1 < 0 := r1
      simp only [if_pos r1', zl_61, zok6, zix6, true_and]
      exact zPq_in rfl (hQ _ _ hR0 rfl rfl)
    · rw [t2] at p7; exact absurd p7 (by simp)
  · have t1' : ¬ h 17 2 < 0 := by
      rw [show h 17 2 = nI t from g3]; exact nI_pos (by omega)
    have g3' : h 17 2 = nI t := g3
    simp only [if_neg t1', g3', v3, v4]
    rw [if_neg (nI_pos (by omega : t < 2 ^ 31))]
    refine c7 g1 g2 g4 fun st' => ?_
    simp only [↓r80_0, ↓r80_1, ↓r80_4, ↓r80_7, ↓r80_8, ↓r80_9, ↓r80_10, ↓r80_11, ↓r80_14, ↓r80_15, ↓r80_18, ↓r80_21, ↓r80_24, ↓r80_25, ↓r80_28, ↓r80_29, ↓r80_30, ↓r80_33, ↓r80_36, ↓r80_37, ↓r80_40, ↓r80_43, ↓r80_44, ↓r80_47, Option.toList, List.cons_append, List.nil_append]
    refine zPo_in rfl rfl ?_
    rw [m159]
    simp only [↓r159_0, ↓r159_1, ↓r159_2, ↓r159_5, ↓r159_6, ↓r159_7, ↓r159_10, ↓r159_11, ↓r159_14, ↓r159_15, ↓r159_16, ↓r159_17, ↓r159_18, ↓r159_21, ↓r159_23, ↓r159_24, ↓r159_27, ↓r159_28, ↓r159_29, ↓r159_30, ↓r159_31, ↓r159_34, ↓r159_36, ↓r159_37, ↓r159_40, ↓r159_41, ↓r159_42, ↓r159_43, ↓r159_44, ↓r159_45, ↓r159_48, c179' _ (zhr h 6 st') rfl, Option.toList, List.cons_append, List.nil_append]
    rcases hkeys 2 (by omega) with ⟨r1, r2⟩ | ⟨t', m', w', p1, p2, p3, p4, p5, p6, p7⟩
    · rw [r2] at g5; exact absurd g5 (by simp)
    · have p3' : lastT (h 61) 2 n1 = nI t' := p3
      have e61 : ∀ (nm : Nat → Int32), zhr (zhr h 6 st') 75 nm 61 = h 61 := fun _ => rfl
      have t0 : ¬ nI t' < 0 := nI_pos (by omega)
      simp only [p3', if_neg t0, zs_75, zl_61, y5, y6, zok6, zix6, w5, w6, true_and, zhr_ap, Nat.reduceEqDiff, if_true, if_false, zhr_zhr]
      obtain ⟨k1, k2, k3, k4, k5, k6, k7, k8⟩ := kChrs
      refine c182 (w := w') (a := h 61 3) (b := h 61 4) (c0 := 0) p1 p2 p4 (fun i hi => stepR_OK (by omega) (p5 i hi) (by rw [k7]; rfl) (by rw [k8]; rfl) (fun z => absurd z (by omega))) p6 (fun st2 => ?_)
      simp only [↓r159_0, ↓r159_1, ↓r159_2, ↓r159_5, ↓r159_6, ↓r159_7, ↓r159_10, ↓r159_11, ↓r159_14, ↓r159_15, ↓r159_16, ↓r159_17, ↓r159_18, ↓r159_21, ↓r159_23, ↓r159_24, ↓r159_27, ↓r159_28, ↓r159_29, ↓r159_30, ↓r159_31, ↓r159_34, ↓r159_36, ↓r159_37, ↓r159_40, ↓r159_41, ↓r159_42, ↓r159_43, ↓r159_44, ↓r159_45, ↓r159_48, Option.toList, List.cons_append, List.nil_append]
      rw [g5] at p7
      have e : vC (fun i => h 5 (96 * t + i)) m1 = vC w' m' := Option.some.inj p7
      refine zPq_in (by rw [e]) (hQ _ _ ⟨n, m, N, zRel_keep hRN (fun c a b d => ?_)⟩ rfl rfl)
      rw [zhr_ne _ _ d, zhr_ne _ _ b, zhr_ne _ _ a]
theorem p_count : zPair (d + 20) (d + 20) 102 200 [.int x0] := by
  intro h Q2 hR hQ
  have hR0 := hR
  obtain ⟨n, m, N, hRN⟩ := hR
  obtain ⟨⟨hSt, hm⟩, hu, -, -, -, hNu, hTa⟩ := id hRN
  obtain ⟨⟨hn, h10⟩, -⟩ := hSt.2.1
  have hn' : h 10 1 = nI n := hSt.1.1.1.trans hn
  obtain ⟨v0, v1, v2, v3, v4, v5⟩ := hSt.1.1
  have u0 : h 16 0 = h 61 6 := hSt.1.2.1.1
  have hw := hNu.1
  have hl := hTa.1
  have c40' := fun (x : Int32) (Q' : Option Value → zH → Prop) => c40 (d := d + 17) (Q := Q') (x0 := x) zst10 hn' h10
  have c141' := fun (x : Int32) (Q' : Option Value → zH → Prop) => c141 (d := d + 17) (Q := Q') (x0 := x) hn h10
  have sc1 : ∀ x, zfo (fun i a => if h (10 + 3) i = x then a + 1 else a) n 0 = sCnt (h 61) x n := fun x => zsc_cnt (c := 10) (fun l hl => (hSt.1.2.2 l hl).2.2.1) h10
  simp only [sc1] at c40'
  rw [m102]
  rcases sw9 x0 with rfl | rfl | rfl | rfl | rfl | rfl | rfl | rfl | rfl | ⟨n0, n1, n2, n3, n4, n5, n6, n7, n8⟩
  · simp (decide := true) only [↓reduceIte, ↓r102_0, ↓r102_1, ↓r102_48, ↓r102_49, ↓r102_52, ↓r102_55, ↓r102_56, ↓r102_57, ↓r102_60, ↓r102_63, ↓r102_64, ↓r102_65, ↓r102_68, ↓r102_69, ↓r102_72, ↓r102_73, ↓r102_74, ↓r102_77, ↓r102_78, ↓r102_81, ↓r102_84, ↓r102_85, ↓r102_86, ↓r102_89, ↓r102_90, ↓r102_91, ↓r102_94, ↓r102_97, ↓r102_98, ↓r102_99, ↓r102_102, ↓r102_103, ↓r102_104, ↓r102_107, ↓r102_110, ↓r102_111, ↓r102_112, ↓r102_115, ↓r102_118, ↓r102_119, ↓r102_121, zc_10, zc_18, zc_26, zc_0, zc_1, zc_7, zc_60, Nat.reduceAdd, true_and, Option.toList, List.cons_append, List.nil_append, v0]
    refine zPo_in rfl rfl ?_
    rw [m200]
    simp (decide := true) only [↓reduceIte, ↓r200_0, ↓r200_1, ↓r200_48, ↓r200_49, ↓r200_52, ↓r200_53, ↓r200_54, ↓r200_55, ↓r200_56, ↓r200_59, ↓r200_60, ↓r200_61, ↓r200_62, ↓r200_63, ↓r200_64, ↓r200_67, ↓r200_68, ↓r200_69, ↓r200_70, ↓r200_73, ↓r200_75, ↓r200_76, ↓r200_79, ↓r200_80, ↓r200_81, ↓r200_84, ↓r200_85, ↓r200_86, ↓r200_87, ↓r200_88, ↓r200_91, ↓r200_92, ↓r200_93, ↓r200_96, ↓r200_97, ↓r200_98, ↓r200_101, ↓r200_102, ↓r200_103, ↓r200_104, ↓r200_106, zc_10, zc_18, zc_26, zc_0, zc_1, zc_7, zc_60, Nat.reduceAdd, true_and, Option.toList, List.cons_append, List.nil_append, zl_61, zok0, zix0]
    exact zPq_in rfl (hQ _ _ hR0 rfl rfl)
  · simp (decide := true) only [↓reduceIte, ↓r102_0, ↓r102_1, ↓r102_48, ↓r102_49, ↓r102_52, ↓r102_55, ↓r102_56, ↓r102_57, ↓r102_60, ↓r102_63, ↓r102_64, ↓r102_65, ↓r102_68, ↓r102_69, ↓r102_72, ↓r102_73, ↓r102_74, ↓r102_77, ↓r102_78, ↓r102_81, ↓r102_84, ↓r102_85, ↓r102_86, ↓r102_89, ↓r102_90, ↓r102_91, ↓r102_94, ↓r102_97, ↓r102_98, ↓r102_99, ↓r102_102, ↓r102_103, ↓r102_104, ↓r102_107, ↓r102_110, ↓r102_111, ↓r102_112, ↓r102_115, ↓r102_118, ↓r102_119, ↓r102_121, zc_10, zc_18, zc_26, zc_0, zc_1, zc_7, zc_60, Nat.reduceAdd, true_and, Option.toList, List.cons_append, List.nil_append, v2]
    refine zPo_in rfl rfl ?_
    rw [m200]
    simp (decide := true) only [↓reduceIte, ↓r200_0, ↓r200_1, ↓r200_48, ↓r200_49, ↓r200_52, ↓r200_53, ↓r200_54, ↓r200_55, ↓r200_56, ↓r200_59, ↓r200_60, ↓r200_61, ↓r200_62, ↓r200_63, ↓r200_64, ↓r200_67, ↓r200_68, ↓r200_69, ↓r200_70, ↓r200_73, ↓r200_75, ↓r200_76, ↓r200_79, ↓r200_80, ↓r200_81, ↓r200_84, ↓r200_85, ↓r200_86, ↓r200_87, ↓r200_88, ↓r200_91, ↓r200_92, ↓r200_93, ↓r200_96, ↓r200_97, ↓r200_98, ↓r200_101, ↓r200_102, ↓r200_103, ↓r200_104, ↓r200_106, zc_10, zc_18, zc_26, zc_0, zc_1, zc_7, zc_60, Nat.reduceAdd, true_and, Option.toList, List.cons_append, List.nil_append, zl_61, zok6, zix6]
    exact zPq_in rfl (hQ _ _ hR0 rfl rfl)
  · simp (decide := true) only [↓reduceIte, ↓r102_0, ↓r102_1, ↓r102_48, ↓r102_49, ↓r102_52, ↓r102_55, ↓r102_56, ↓r102_57, ↓r102_60, ↓r102_63, ↓r102_64, ↓r102_65, ↓r102_68, ↓r102_69, ↓r102_72, ↓r102_73, ↓r102_74, ↓r102_77, ↓r102_78, ↓r102_81, ↓r102_84, ↓r102_85, ↓r102_86, ↓r102_89, ↓r102_90, ↓r102_91, ↓r102_94, ↓r102_97, ↓r102_98, ↓r102_99, ↓r102_102, ↓r102_103, ↓r102_104, ↓r102_107, ↓r102_110, ↓r102_111, ↓r102_112, ↓r102_115, ↓r102_118, ↓r102_119, ↓r102_121, zc_10, zc_18, zc_26, zc_0, zc_1, zc_7, zc_60, Nat.reduceAdd, true_and, Option.toList, List.cons_append, List.nil_append, c40']
    refine zPo_in rfl rfl ?_
    rw [m200]
    simp (decide := true) only [↓reduceIte, ↓r200_0, ↓r200_1, ↓r200_48, ↓r200_49, ↓r200_52, ↓r200_53, ↓r200_54, ↓r200_55, ↓r200_56, ↓r200_59, ↓r200_60, ↓r200_61, ↓r200_62, ↓r200_63, ↓r200_64, ↓r200_67, ↓r200_68, ↓r200_69, ↓r200_70, ↓r200_73, ↓r200_75, ↓r200_76, ↓r200_79, ↓r200_80, ↓r200_81, ↓r200_84, ↓r200_85, ↓r200_86, ↓r200_87, ↓r200_88, ↓r200_91, ↓r200_92, ↓r200_93, ↓r200_96, ↓r200_97, ↓r200_98, ↓r200_101, ↓r200_102, ↓r200_103, ↓r200_104, ↓r200_106, zc_10, zc_18, zc_26, zc_0, zc_1, zc_7, zc_60, Nat.reduceAdd, true_and, Option.toList, List.cons_append, List.nil_append, c141']
    exact zPq_in rfl (hQ _ _ hR0 rfl rfl)
  · simp (decide := true) only [↓reduceIte, ↓r102_0, ↓r102_1, ↓r102_48, ↓r102_49, ↓r102_52, ↓r102_55, ↓r102_56, ↓r102_57, ↓r102_60, ↓r102_63, ↓r102_64, ↓r102_65, ↓r102_68, ↓r102_69, ↓r102_72, ↓r102_73, ↓r102_74, ↓r102_77, ↓r102_78, ↓r102_81, ↓r102_84, ↓r102_85, ↓r102_86, ↓r102_89, ↓r102_90, ↓r102_91, ↓r102_94, ↓r102_97, ↓r102_98, ↓r102_99, ↓r102_102, ↓r102_103, ↓r102_104, ↓r102_107, ↓r102_110, ↓r102_111, ↓r102_112, ↓r102_115, ↓r102_118, ↓r102_119, ↓r102_121, zc_10, zc_18, zc_26, zc_0, zc_1, zc_7, zc_60, Nat.reduceAdd, true_and, Option.toList, List.cons_append, List.nil_append, zl_16, zoks, zixs, u0, c40']
    refine zPo_in rfl rfl ?_
    rw [m200]
    simp (decide := true) only [↓reduceIte, ↓r200_0, ↓r200_1, ↓r200_48, ↓r200_49, ↓r200_52, ↓r200_53, ↓r200_54, ↓r200_55, ↓r200_56, ↓r200_59, ↓r200_60, ↓r200_61, ↓r200_62, ↓r200_63, ↓r200_64, ↓r200_67, ↓r200_68, ↓r200_69, ↓r200_70, ↓r200_73, ↓r200_75, ↓r200_76, ↓r200_79, ↓r200_80, ↓r200_81, ↓r200_84, ↓r200_85, ↓r200_86, ↓r200_87, ↓r200_88, ↓r200_91, ↓r200_92, ↓r200_93, ↓r200_96, ↓r200_97, ↓r200_98, ↓r200_101, ↓r200_102, ↓r200_103, ↓r200_104, ↓r200_106, zc_10, zc_18, zc_26, zc_0, zc_1, zc_7, zc_60, Nat.reduceAdd, true_and, Option.toList, List.cons_append, List.nil_append, zl_61, zok6, zix6, c141']
    exact zPq_in rfl (hQ _ _ hR0 rfl rfl)
  · simp (decide := true) only [↓reduceIte, ↓r102_0, ↓r102_1, ↓r102_48, ↓r102_49, ↓r102_52, ↓r102_55, ↓r102_56, ↓r102_57, ↓r102_60, ↓r102_63, ↓r102_64, ↓r102_65, ↓r102_68, ↓r102_69, ↓r102_72, ↓r102_73, ↓r102_74, ↓r102_77, ↓r102_78, ↓r102_81, ↓r102_84, ↓r102_85, ↓r102_86, ↓r102_89, ↓r102_90, ↓r102_91, ↓r102_94, ↓r102_97, ↓r102_98, ↓r102_99, ↓r102_102, ↓r102_103, ↓r102_104, ↓r102_107, ↓r102_110, ↓r102_111, ↓r102_112, ↓r102_115, ↓r102_118, ↓r102_119, ↓r102_121, zc_10, zc_18, zc_26, zc_0, zc_1, zc_7, zc_60, Nat.reduceAdd, true_and, Option.toList, List.cons_append, List.nil_append, v1]
    refine zPo_in rfl rfl ?_
    rw [m200]
    simp (decide := true) only [↓reduceIte, ↓r200_0, ↓r200_1, ↓r200_48, ↓r200_49, ↓r200_52, ↓r200_53, ↓r200_54, ↓r200_55, ↓r200_56, ↓r200_59, ↓r200_60, ↓r200_61, ↓r200_62, ↓r200_63, ↓r200_64, ↓r200_67, ↓r200_68, ↓r200_69, ↓r200_70, ↓r200_73, ↓r200_75, ↓r200_76, ↓r200_79, ↓r200_80, ↓r200_81, ↓r200_84, ↓r200_85, ↓r200_86, ↓r200_87, ↓r200_88, ↓r200_91, ↓r200_92, ↓r200_93, ↓r200_96, ↓r200_97, ↓r200_98, ↓r200_101, ↓r200_102, ↓r200_103, ↓r200_104, ↓r200_106, zc_10, zc_18, zc_26, zc_0, zc_1, zc_7, zc_60, Nat.reduceAdd, true_and, Option.toList, List.cons_append, List.nil_append, zl_61, zok1, zix1]
    exact zPq_in rfl (hQ _ _ hR0 rfl rfl)
  · simp (decide := true) only [↓reduceIte, ↓r102_0, ↓r102_1, ↓r102_48, ↓r102_49, ↓r102_52, ↓r102_55, ↓r102_56, ↓r102_57, ↓r102_60, ↓r102_63, ↓r102_64, ↓r102_65, ↓r102_68, ↓r102_69, ↓r102_72, ↓r102_73, ↓r102_74, ↓r102_77, ↓r102_78, ↓r102_81, ↓r102_84, ↓r102_85, ↓r102_86, ↓r102_89, ↓r102_90, ↓r102_91, ↓r102_94, ↓r102_97, ↓r102_98, ↓r102_99, ↓r102_102, ↓r102_103, ↓r102_104, ↓r102_107, ↓r102_110, ↓r102_111, ↓r102_112, ↓r102_115, ↓r102_118, ↓r102_119, ↓r102_121, zc_10, zc_18, zc_26, zc_0, zc_1, zc_7, zc_60, Nat.reduceAdd, true_and, Option.toList, List.cons_append, List.nil_append, hw]
    refine zPo_in rfl rfl ?_
    rw [m200]
    simp (decide := true) only [↓reduceIte, ↓r200_0, ↓r200_1, ↓r200_48, ↓r200_49, ↓r200_52, ↓r200_53, ↓r200_54, ↓r200_55, ↓r200_56, ↓r200_59, ↓r200_60, ↓r200_61, ↓r200_62, ↓r200_63, ↓r200_64, ↓r200_67, ↓r200_68, ↓r200_69, ↓r200_70, ↓r200_73, ↓r200_75, ↓r200_76, ↓r200_79, ↓r200_80, ↓r200_81, ↓r200_84, ↓r200_85, ↓r200_86, ↓r200_87, ↓r200_88, ↓r200_91, ↓r200_92, ↓r200_93, ↓r200_96, ↓r200_97, ↓r200_98, ↓r200_101, ↓r200_102, ↓r200_103, ↓r200_104, ↓r200_106, zc_10, zc_18, zc_26, zc_0, zc_1, zc_7, zc_60, Nat.reduceAdd, true_and, Option.toList, List.cons_append, List.nil_append]
    exact zPq_in rfl (hQ _ _ hR0 rfl rfl)
  · simp (decide := true) only [↓reduceIte, ↓r102_0, ↓r102_1, ↓r102_48, ↓r102_49, ↓r102_52, ↓r102_55, ↓r102_56, ↓r102_57, ↓r102_60, ↓r102_63, ↓r102_64, ↓r102_65, ↓r102_68, ↓r102_69, ↓r102_72, ↓r102_73, ↓r102_74, ↓r102_77, ↓r102_78, ↓r102_81, ↓r102_84, ↓r102_85, ↓r102_86, ↓r102_89, ↓r102_90, ↓r102_91, ↓r102_94, ↓r102_97, ↓r102_98, ↓r102_99, ↓r102_102, ↓r102_103, ↓r102_104, ↓r102_107, ↓r102_110, ↓r102_111, ↓r102_112, ↓r102_115, ↓r102_118, ↓r102_119, ↓r102_121, zc_10, zc_18, zc_26, zc_0, zc_1, zc_7, zc_60, Nat.reduceAdd, true_and, Option.toList, List.cons_append, List.nil_append, hl]
    refine zPo_in rfl rfl ?_
    rw [m200]
    simp (decide := true) only [↓reduceIte, ↓r200_0, ↓r200_1, ↓r200_48, ↓r200_49, ↓r200_52, ↓r200_53, ↓r200_54, ↓r200_55, ↓r200_56, ↓r200_59, ↓r200_60, ↓r200_61, ↓r200_62, ↓r200_63, ↓r200_64, ↓r200_67, ↓r200_68, ↓r200_69, ↓r200_70, ↓r200_73, ↓r200_75, ↓r200_76, ↓r200_79, ↓r200_80, ↓r200_81, ↓r200_84, ↓r200_85, ↓r200_86, ↓r200_87, ↓r200_88, ↓r200_91, ↓r200_92, ↓r200_93, ↓r200_96, ↓r200_97, ↓r200_98, ↓r200_101, ↓r200_102, ↓r200_103, ↓r200_104, ↓r200_106, zc_10, zc_18, zc_26, zc_0, zc_1, zc_7, zc_60, Nat.reduceAdd, true_and, Option.toList, List.cons_append, List.nil_append]
    exact zPq_in rfl (hQ _ _ hR0 rfl rfl)
  · simp (decide := true) only [↓reduceIte, ↓r102_0, ↓r102_1, ↓r102_48, ↓r102_49, ↓r102_52, ↓r102_55, ↓r102_56, ↓r102_57, ↓r102_60, ↓r102_63, ↓r102_64, ↓r102_65, ↓r102_68, ↓r102_69, ↓r102_72, ↓r102_73, ↓r102_74, ↓r102_77, ↓r102_78, ↓r102_81, ↓r102_84, ↓r102_85, ↓r102_86, ↓r102_89, ↓r102_90, ↓r102_91, ↓r102_94, ↓r102_97, ↓r102_98, ↓r102_99, ↓r102_102, ↓r102_103, ↓r102_104, ↓r102_107, ↓r102_110, ↓r102_111, ↓r102_112, ↓r102_115, ↓r102_118, ↓r102_119, ↓r102_121, zc_10, zc_18, zc_26, zc_0, zc_1, zc_7, zc_60, Nat.reduceAdd, true_and, Option.toList, List.cons_append, List.nil_append, v5]
    refine zPo_in rfl rfl ?_
    rw [m200]
    simp (decide := true) only [↓reduceIte, ↓r200_0, ↓r200_1, ↓r200_48, ↓r200_49, ↓r200_52, ↓r200_53, ↓r200_54, ↓r200_55, ↓r200_56, ↓r200_59, ↓r200_60, ↓r200_61, ↓r200_62, ↓r200_63, ↓r200_64, ↓r200_67, ↓r200_68, ↓r200_69, ↓r200_70, ↓r200_73, ↓r200_75, ↓r200_76, ↓r200_79, ↓r200_80, ↓r200_81, ↓r200_84, ↓r200_85, ↓r200_86, ↓r200_87, ↓r200_88, ↓r200_91, ↓r200_92, ↓r200_93, ↓r200_96, ↓r200_97, ↓r200_98, ↓r200_101, ↓r200_102, ↓r200_103, ↓r200_104, ↓r200_106, zc_10, zc_18, zc_26, zc_0, zc_1, zc_7, zc_60, Nat.reduceAdd, true_and, Option.toList, List.cons_append, List.nil_append, zl_61, zok5', zixs]
    exact zPq_in rfl (hQ _ _ hR0 rfl rfl)
  · simp (decide := true) only [↓reduceIte, ↓r102_0, ↓r102_1, ↓r102_48, ↓r102_49, ↓r102_52, ↓r102_55, ↓r102_56, ↓r102_57, ↓r102_60, ↓r102_63, ↓r102_64, ↓r102_65, ↓r102_68, ↓r102_69, ↓r102_72, ↓r102_73, ↓r102_74, ↓r102_77, ↓r102_78, ↓r102_81, ↓r102_84, ↓r102_85, ↓r102_86, ↓r102_89, ↓r102_90, ↓r102_91, ↓r102_94, ↓r102_97, ↓r102_98, ↓r102_99, ↓r102_102, ↓r102_103, ↓r102_104, ↓r102_107, ↓r102_110, ↓r102_111, ↓r102_112, ↓r102_115, ↓r102_118, ↓r102_119, ↓r102_121, zc_10, zc_18, zc_26, zc_0, zc_1, zc_7, zc_60, Nat.reduceAdd, true_and, Option.toList, List.cons_append, List.nil_append]
    refine zPo_in rfl rfl ?_
    rw [m200]
    simp (decide := true) only [↓reduceIte, ↓r200_0, ↓r200_1, ↓r200_48, ↓r200_49, ↓r200_52, ↓r200_53, ↓r200_54, ↓r200_55, ↓r200_56, ↓r200_59, ↓r200_60, ↓r200_61, ↓r200_62, ↓r200_63, ↓r200_64, ↓r200_67, ↓r200_68, ↓r200_69, ↓r200_70, ↓r200_73, ↓r200_75, ↓r200_76, ↓r200_79, ↓r200_80, ↓r200_81, ↓r200_84, ↓r200_85, ↓r200_86, ↓r200_87, ↓r200_88, ↓r200_91, ↓r200_92, ↓r200_93, ↓r200_96, ↓r200_97, ↓r200_98, ↓r200_101, ↓r200_102, ↓r200_103, ↓r200_104, ↓r200_106, zc_10, zc_18, zc_26, zc_0, zc_1, zc_7, zc_60, Nat.reduceAdd, true_and, Option.toList, List.cons_append, List.nil_append]
    exact zPq_in rfl (hQ _ _ hR0 rfl rfl)
  · simp (decide := true) only [↓reduceIte, ↓r102_0, ↓r102_1, ↓r102_48, ↓r102_49, ↓r102_52, ↓r102_55, ↓r102_56, ↓r102_57, ↓r102_60, ↓r102_63, ↓r102_64, ↓r102_65, ↓r102_68, ↓r102_69, ↓r102_72, ↓r102_73, ↓r102_74, ↓r102_77, ↓r102_78, ↓r102_81, ↓r102_84, ↓r102_85, ↓r102_86, ↓r102_89, ↓r102_90, ↓r102_91, ↓r102_94, ↓r102_97, ↓r102_98, ↓r102_99, ↓r102_102, ↓r102_103, ↓r102_104, ↓r102_107, ↓r102_110, ↓r102_111, ↓r102_112, ↓r102_115, ↓r102_118, ↓r102_119, ↓r102_121, zc_10, zc_18, zc_26, zc_0, zc_1, zc_7, zc_60, Nat.reduceAdd, true_and, Option.toList, List.cons_append, List.nil_append, if_neg n0, if_neg n1, if_neg n2, if_neg n3, if_neg n4, if_neg n5, if_neg n6, if_neg n7]
    refine zPo_in rfl rfl ?_
    rw [m200]
    simp (decide := true) only [↓reduceIte, ↓r200_0, ↓r200_1, ↓r200_48, ↓r200_49, ↓r200_52, ↓r200_53, ↓r200_54, ↓r200_55, ↓r200_56, ↓r200_59, ↓r200_60, ↓r200_61, ↓r200_62, ↓r200_63, ↓r200_64, ↓r200_67, ↓r200_68, ↓r200_69, ↓r200_70, ↓r200_73, ↓r200_75, ↓r200_76, ↓r200_79, ↓r200_80, ↓r200_81, ↓r200_84, ↓r200_85, ↓r200_86, ↓r200_87, ↓r200_88, ↓r200_91, ↓r200_92, ↓r200_93, ↓r200_96, ↓r200_97, ↓r200_98, ↓r200_101, ↓r200_102, ↓r200_103, ↓r200_104, ↓r200_106, zc_10, zc_18, zc_26, zc_0, zc_1, zc_7, zc_60, Nat.reduceAdd, true_and, Option.toList, List.cons_append, List.nil_append, if_neg n0, if_neg n1, if_neg n2, if_neg n3, if_neg n4, if_neg n5, if_neg n6, if_neg n7]
    exact zPq_in rfl (hQ _ _ hR0 rfl rfl)
theorem zB_cong (er : ∀ k, k < 62 → row' k = row k) (hB : zB row n m) : zB row' n m := by
  obtain ⟨⟨b1, b2⟩, b3, b4, b5, b6, b7, b8⟩ := hB
  refine ⟨⟨by rw [er _ (by omega)]; exact b1, b2⟩, fun i hi => ?_, by rw [er _ (by omega)]; exact b4, by rw [er _ (by omega)]; exact b5, by rw [er _ (by omega)]; exact b6, by rw [er _ (by omega)]; exact b7, by rw [er _ (by omega)]; exact b8⟩
  rw [er _ (by omega), er _ (by omega), er _ (by omega), er _ (by omega)]
  exact b3 i hi
theorem lastT_cong2 {key : Int32} (h14 : N ≤ 14) (er : ∀ k, k < 2862 → row' k = row k) : lastT row' key N = lastT row key N := by
  unfold lastT
  exact zfo_cong (fun i a hi => by simp only [er (62 + 200 * i) (by omega)]) _
theorem tRel_cong2 (h14 : N ≤ 14) (e2 : h' 2 = h 2) (e3 : h' 3 = h 3) (e4 : h' 4 = h 4) (e5 : h' 5 = h 5) (er : ∀ k, k < 2862 → row' k = row k) (hT : tRel h row N) : tRel h' row' N := by
  intro t ht
  obtain ⟨key, m, q1, q2, q3, q4, q5, q6, q7, q8, q9⟩ := hT t ht
  refine ⟨key, m, q1, q2, by rw [e2]; exact q3, by rw [er _ (by omega)]; exact q4, by rw [e3, er _ (by omega)]; exact q5, by rw [e4]; exact q6, by rw [er _ (by omega)]; exact q7, fun i hi => ?_, by rw [e5]; exact q9⟩
  rw [e5, er _ (by omega), er _ (by omega)]
  exact q8 i hi
theorem zSt_same (hS : zSt h b row n m N) (e : zSame h h' c b) (er : ∀ k, k < 2862 → row' k = row k) (e2 : h' 2 = h 2) (e3 : h' 3 = h 3) (e4 : h' 4 = h 4) (e5 : h' 5 = h 5) : zSt h' c row' n m N := by
  obtain ⟨hV, hB, ⟨hN, hN14⟩, hcnt, hT, h14⟩ := hS
  refine ⟨zV_cong (zV_same e hV) (fun k hk => er k (by omega)), zB_cong (fun k hk => er k (by omega)) hB, ⟨by rw [er 1 (by omega)]; exact hN, hN14⟩, fun key hk => ?_, tRel_cong2 hN14 e2 e3 e4 e5 er hT, ?_⟩
  · rw [lastT_cong2 hN14 er, e.2.2.1 key hk]
    exact hcnt key hk
  · rw [e.1.2.2.2.2.2.2]; exact h14
theorem p_keep : zPair (d + 20) (d + 20) 100 198 [] := by
  intro h Q2 hR hQ
  obtain ⟨n, m, N, hRN⟩ := hR
  obtain ⟨⟨hSt, hm⟩, hu, hI, hSh, hSl, hNu, hTa⟩ := hRN
  obtain ⟨hn, h10⟩ := hSt.2.1.1
  rw [m100]
  simp only [↓r100_0, ↓r100_1, ↓r100_4, ↓r100_5, ↓r100_8, ↓r100_11, ↓r100_12, ↓r100_13, ↓r100_16, ↓r100_17, ↓r100_20, ↓r100_23, zc_10, zc_18, zc_26, zc_0, zc_1, zc_7, zc_60, Nat.reduceAdd, true_and, Option.toList, List.cons_append, List.nil_append]
  refine c36 zst18 zst10 (by omega) fun h1 e1 e1s => ?_
  have o : ∀ c, ¬ (18 ≤ c ∧ c ≤ 25) → h1 c = h c := fun c hc => e1 c (by omega)
  have hn' : zhr h1 0 (upd (h1 0) 5 1) 10 1 = nI n := by
    rw [zhr_ne _ _ (by omega), o _ (by omega)]
    exact hSt.1.1.1.trans hn
  simp only [↓r100_0, ↓r100_1, ↓r100_4, ↓r100_5, ↓r100_8, ↓r100_11, ↓r100_12, ↓r100_13, ↓r100_16, ↓r100_17, ↓r100_20, ↓r100_23, zc_10, zc_18, zc_26, zc_0, zc_1, zc_7, zc_60, Nat.reduceAdd, true_and, Option.toList, List.cons_append, List.nil_append, hn', or_true, true_or]
  refine zPo_in ?_ ?_ ?_
  · rw [zhr_ne _ _ (by omega)]; exact o _ (by omega)
  · rw [zhr_ne _ _ (by omega)]; exact o _ (by omega)
  rw [m198]
  simp only [↓r198_0, ↓r198_1, ↓r198_2, ↓r198_5, ↓r198_6, ↓r198_7, ↓r198_10, ↓r198_11, ↓r198_14, ↓r198_17, ↓r198_18, ↓r198_21, ↓r198_22, ↓r198_23, Option.toList, List.cons_append, List.nil_append, or_true, true_or, true_and]
  refine c196 (Or.inr (Or.inr (Or.inr ⟨rfl, rfl⟩))) ?_
  have oo : ∀ (r6 r0 ri : Nat → Int32) (c : Nat), ¬ (18 ≤ c ∧ c ≤ 25) → c ≠ 0 → c ≠ 60 → c ≠ 62 → zhr (zhr (zhr h1 0 r0) 60 r6) 62 ri c = h c := by
    intro r6 r0 ri c a b e f
    rw [zhr_ne _ _ f, zhr_ne _ _ e, zhr_ne _ _ b]
    exact o c a
  simp only [↓r198_0, ↓r198_1, ↓r198_2, ↓r198_5, ↓r198_6, ↓r198_7, ↓r198_10, ↓r198_11, ↓r198_14, ↓r198_17, ↓r198_18, ↓r198_21, ↓r198_22, ↓r198_23, Option.toList, List.cons_append, List.nil_append, zl_61, zok0, zix0, true_and]
  rw [oo _ _ _ 61 (by omega) (by omega) (by omega) (by omega)]
  refine zPq_in hn (hQ _ _ ⟨n, m, N, ⟨?_, hm⟩, ?_, ⟨?_, Or.inr ⟨?_, n, m, N, ?_, hm, Nat.le_refl N⟩⟩, ?_, ?_, ?_, ?_⟩ ?_ ?_)
  · rw [oo _ _ _ 61 (by omega) (by omega) (by omega) (by omega)]
    exact zSt_keep hSt (fun j hj => oo _ _ _ _ (by omega) (by omega) (by omega) (by omega)) (fun c' a b => oo _ _ _ _ (by omega) (by omega) (by omega) (by omega))
  · rw [zhr_ne _ _ (by omega), zhr_same, zup_ap, if_neg (by omega), zhr_ne _ _ (by omega), o _ (by omega)]
    exact hu
  · rw [zhr_ne _ _ (by omega), zhr_ne _ _ (by omega), zhr_same, zhr_ne _ _ (by omega), zhr_same, pk_us, pk_us]
  · rw [zhr_ne _ _ (by omega), zhr_ne _ _ (by omega), zhr_same, pk_us]
  · rw [zhr_same]
    refine zSt_same (h := h) (b := 10) hSt ?_ (fun k hk => ?_) (oo _ _ _ _ (by omega) (by omega) (by omega) (by omega)) (oo _ _ _ _ (by omega) (by omega) (by omega) (by omega)) (oo _ _ _ _ (by omega) (by omega) (by omega) (by omega)) (oo _ _ _ _ (by omega) (by omega) (by omega) (by omega))
    · unfold zSame at e1s ⊢
      exact e1s
    · rw [if_pos hk, zhr_ne _ _ (by omega), zhr_ne _ _ (by omega), o _ (by omega)]
  · exact rSheets_keep hSh (fun c' hc' => oo _ _ _ _ (by omega) (by omega) (by omega) (by omega))
  · exact rSlots_keep hSl (fun c' hc' => oo _ _ _ _ (by omega) (by omega) (by omega) (by omega))
  · rw [oo _ _ _ 59 (by omega) (by omega) (by omega) (by omega), oo _ _ _ 78 (by omega) (by omega) (by omega) (by omega), zhr_ne _ _ (by omega : 0 ≠ 62), zhr_ne _ _ (by omega : 0 ≠ 60), zhr_same, zhr_ne _ _ (by omega : 60 ≠ 62), zhr_same, pk_un (by omega), pk_un (by omega), zhr_ne _ _ (by omega : 60 ≠ 0), o 0 (by omega), o 60 (by omega)]
    exact hNu
  · rw [oo _ _ _ 7 (by omega) (by omega) (by omega) (by omega), oo _ _ _ 8 (by omega) (by omega) (by omega) (by omega), oo _ _ _ 74 (by omega) (by omega) (by omega) (by omega), zhr_ne _ _ (by omega : 60 ≠ 62), zhr_same, pk_un (by omega), zhr_ne _ _ (by omega : 60 ≠ 0), o 60 (by omega)]
    exact hTa
  · exact oo _ _ _ _ (by omega) (by omega) (by omega) (by omega)
  · exact oo _ _ _ _ (by omega) (by omega) (by omega) (by omega)
theorem p_back : zPair (d + 20) (d + 20) 101 199 [] := by
  intro h Q2 hR hQ
  have hR0 := hR
  obtain ⟨n, m, N, hRN⟩ := hR
  obtain ⟨⟨hSt, hm⟩, hu, hI, hSh, hSl, hNu, hTa⟩ := hRN
  rw [m101]
  simp only [↓r101_0, ↓r101_1, ↓r101_7, ↓r101_10, ↓r101_11, ↓r101_12, ↓r101_15, ↓r101_16, ↓r101_19, ↓r101_22, ↓r101_23, ↓r101_26, ↓r101_29, zc_10, zc_18, zc_26, zc_0, zc_1, zc_7, zc_60, Nat.reduceAdd, true_and, Option.toList, List.cons_append, List.nil_append]
  rw [r101_4]
  obtain ⟨i1, i2⟩ := id hI
  rcases i2 with i2 | ⟨i2, n', m', N', hSi, hm', hN'⟩
  · rw [if_pos i2]
    simp only [↓r101_0, ↓r101_1, ↓r101_4, ↓r101_7, ↓r101_10, ↓r101_11, ↓r101_12, ↓r101_15, ↓r101_16, ↓r101_19, ↓r101_22, ↓r101_23, ↓r101_26, ↓r101_29, zc_10, zc_18, zc_26, zc_0, zc_1, zc_7, zc_60, Nat.reduceAdd, true_and, Option.toList, List.cons_append, List.nil_append]
    refine zPo_in rfl rfl ?_
    rw [m199]
    simp only [↓r199_0, ↓r199_1, ↓r199_7, ↓r199_10, ↓r199_11, ↓r199_12, ↓r199_13, ↓r199_16, ↓r199_17, ↓r199_20, ↓r199_23, ↓r199_24, ↓r199_27, ↓r199_28, ↓r199_29, zc_10, zc_18, zc_26, zc_0, zc_1, zc_7, zc_60, Nat.reduceAdd, true_and, Option.toList, List.cons_append, List.nil_append]
    rw [r199_4, if_pos (i1.symm.trans i2)]
    simp only [↓r199_0, ↓r199_1, ↓r199_4, ↓r199_7, ↓r199_10, ↓r199_11, ↓r199_12, ↓r199_13, ↓r199_16, ↓r199_17, ↓r199_20, ↓r199_23, ↓r199_24, ↓r199_27, ↓r199_28, ↓r199_29, zc_10, zc_18, zc_26, zc_0, zc_1, zc_7, zc_60, Nat.reduceAdd, true_and, Option.toList, List.cons_append, List.nil_append]
    exact zPq_in rfl (hQ _ _ hR0 rfl rfl)
  · rw [i2, if_neg (by decide)]
    simp only [↓r101_0, ↓r101_1, ↓r101_4, ↓r101_7, ↓r101_10, ↓r101_11, ↓r101_12, ↓r101_15, ↓r101_16, ↓r101_19, ↓r101_22, ↓r101_23, ↓r101_26, ↓r101_29, zc_10, zc_18, zc_26, zc_0, zc_1, zc_7, zc_60, Nat.reduceAdd, true_and, Option.toList, List.cons_append, List.nil_append]
    obtain ⟨hn, h10⟩ := hSi.2.1.1
    refine c36 zst10 zst18 (by omega) fun h1 e1 e1s => ?_
    have o : ∀ c, ¬ (10 ≤ c ∧ c ≤ 17) → h1 c = h c := fun c hc => e1 c (by omega)
    have hn' : h1 10 1 = nI n' := by
      rw [e1s.1.1]
      exact hSi.1.1.1.trans hn
    simp only [↓r101_0, ↓r101_1, ↓r101_4, ↓r101_7, ↓r101_10, ↓r101_11, ↓r101_12, ↓r101_15, ↓r101_16, ↓r101_19, ↓r101_22, ↓r101_23, ↓r101_26, ↓r101_29, zc_10, zc_18, zc_26, zc_0, zc_1, zc_7, zc_60, Nat.reduceAdd, true_and, Option.toList, List.cons_append, List.nil_append, hn']
    refine zPo_in (o _ (by omega)) (o _ (by omega)) ?_
    rw [m199]
    simp only [↓r199_0, ↓r199_1, ↓r199_7, ↓r199_10, ↓r199_11, ↓r199_12, ↓r199_13, ↓r199_16, ↓r199_17, ↓r199_20, ↓r199_23, ↓r199_24, ↓r199_27, ↓r199_28, ↓r199_29, zc_10, zc_18, zc_26, zc_0, zc_1, zc_7, zc_60, Nat.reduceAdd, true_and, Option.toList, List.cons_append, List.nil_append]
    rw [r199_4, o _ (by omega), ← i1, i2, if_neg (by decide)]
    simp only [↓r199_0, ↓r199_1, ↓r199_4, ↓r199_7, ↓r199_10, ↓r199_11, ↓r199_12, ↓r199_13, ↓r199_16, ↓r199_17, ↓r199_20, ↓r199_23, ↓r199_24, ↓r199_27, ↓r199_28, ↓r199_29, zc_10, zc_18, zc_26, zc_0, zc_1, zc_7, zc_60, Nat.reduceAdd, true_and, Option.toList, List.cons_append, List.nil_append]
    refine c196 (Or.inr (Or.inl ⟨rfl, rfl⟩)) ?_
    simp only [↓r199_0, ↓r199_1, ↓r199_4, ↓r199_7, ↓r199_10, ↓r199_11, ↓r199_12, ↓r199_13, ↓r199_16, ↓r199_17, ↓r199_20, ↓r199_23, ↓r199_24, ↓r199_27, ↓r199_28, ↓r199_29, Option.toList, List.cons_append, List.nil_append, zl_61, zok0, zix0, true_and, zhr_same]
    have oo : ∀ (ri : Nat → Int32) (c : Nat), ¬ (10 ≤ c ∧ c ≤ 17) → c ≠ 61 → zhr h1 61 ri c = h c := by
      intro ri c a b
      rw [zhr_ne _ _ b]
      exact o c a
    refine zPq_in ?_ (hQ _ _ ⟨n', m', N', ⟨?_, hm'⟩, ?_, ⟨?_, Or.inr ⟨?_, n', m', N', ?_, hm', Nat.le_refl N'⟩⟩, ?_, ?_, ?_, ?_⟩ ?_ ?_)
    · rw [if_pos (by omega), o _ (by omega)]; exact hn
    · rw [zhr_same]
      refine zSt_same (h := h) (b := 18) hSi ?_ (fun k hk => ?_) (oo _ _ (by omega) (by omega)) (oo _ _ (by omega) (by omega)) (oo _ _ (by omega) (by omega)) (oo _ _ (by omega) (by omega))
      · unfold zSame at e1s ⊢
        exact e1s
      · rw [if_pos hk, o _ (by omega)]
    · rw [oo _ _ (by omega) (by omega)]; exact hu
    · rw [oo _ _ (by omega) (by omega), oo _ _ (by omega) (by omega)]; exact i1
    · rw [oo _ _ (by omega) (by omega)]; exact i2
    · rw [oo _ 62 (by omega) (by omega)]
      exact zSt_keep hSi (fun j hj => oo _ _ (by omega) (by omega)) (fun c' a b => oo _ _ (by omega) (by omega))
    · exact rSheets_keep hSh (fun c' hc' => oo _ _ (by omega) (by omega))
    · exact rSlots_keep hSl (fun c' hc' => oo _ _ (by omega) (by omega))
    · rw [oo _ 59 (by omega) (by omega), oo _ 78 (by omega) (by omega), oo _ 0 (by omega) (by omega), oo _ 60 (by omega) (by omega)]
      exact hNu
    · rw [oo _ 7 (by omega) (by omega), oo _ 8 (by omega) (by omega), oo _ 74 (by omega) (by omega), oo _ 60 (by omega) (by omega)]
      exact hTa
    · exact oo _ _ (by omega) (by omega)
    · exact oo _ _ (by omega) (by omega)
end
