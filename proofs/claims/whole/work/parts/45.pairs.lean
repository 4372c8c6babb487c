/-! pairs: steps, book, high, fine, textTold, why, count, keep, back -/
def hiR (P : Nat → Bool) : Nat → Nat → Int32
  | 0, _ => -1
  | f + 1, i => if P i = true then nI i else hiR P f (i + 1)
section
variable {d : Nat} {x0 x1 x2 v : Int32} {h h' : zH} {n m N n' m' k w j f b c : Nat} {s row row' : Nat → Int32} {Q : Option Value → zH → Prop} {τ : zTau} {u : Int32}
theorem c145_loop {was : Int32} {F : Nat} (hF : F ≤ 100) (hB : zB (h 61) n m) (hT : zTR (h 61) τ) (hm : m ≤ 9999) (hQ : ∀ (i : Nat) (h' : zH), (i = F ∧ m + i ≤ 9999) ∨ (i ≤ F ∧ m + i = 9999) → sr h h' → h' 61 = stepN τ (h 60 12) n i (h 61) → Q (some (.int (h' 61 4 - was))) h') : ∀ (g i : Nat) (h' : zH), i + g = F → m + i ≤ 9999 → sr h h' → h' 61 = stepN τ (h 60 12) n i (h 61) → zR (d + 6) 145 Q 24 [some (.ref 60), some (.int (nI F)), some (.int was), some (.int (nI i))] [] h' := by
  intro g
  induction g with
  | zero =>
    intro i h' hi hmi e e61
    have hif : i = F := by omega
    rw [r145_24]
    have z := nI_nlt (Nat.le_refl i) (by omega)
    rw [← hif]
    simp only [↓r145_0, ↓r145_1, ↓r145_2, ↓r145_3, ↓r145_6, ↓r145_9, ↓r145_12, ↓r145_14, ↓r145_15, ↓r145_16, ↓r145_19, ↓r145_20, ↓r145_21, ↓r145_22, ↓r145_23, ↓r145_25, ↓r145_26, ↓r145_29, ↓r145_30, ↓r145_33, ↓r145_34, ↓r145_35, ↓r145_38, ↓r145_41, ↓r145_42, ↓r145_45, ↓r145_48, ↓r145_51, ↓r145_52, ↓r145_55, ↓r145_56, ↓r145_57, ↓r145_58, ↓r145_59, z, if_false, zl_61, zok6, zix6, true_and]
    exact hQ i h' (Or.inl ⟨hif, hmi⟩) e e61
  | succ g ih =>
    intro i h' hi hmi e e61
    have hB' := zB_stepN (τ := τ) (u := h 60 12) hB i (by omega)
    have h10 := hB.1.2
    have e2' : h' 61 2 = nI (m + i) := by rw [e61]; exact hB'.2.2.2.2.2.1
    rw [r145_24]
    simp only [↓r145_0, ↓r145_1, ↓r145_2, ↓r145_3, ↓r145_6, ↓r145_9, ↓r145_12, ↓r145_14, ↓r145_15, ↓r145_16, ↓r145_19, ↓r145_20, ↓r145_21, ↓r145_22, ↓r145_23, ↓r145_25, ↓r145_26, ↓r145_29, ↓r145_30, ↓r145_33, ↓r145_34, ↓r145_35, ↓r145_38, ↓r145_41, ↓r145_42, ↓r145_45, ↓r145_48, ↓r145_51, ↓r145_52, ↓r145_55, ↓r145_56, ↓r145_57, ↓r145_58, ↓r145_59, nI_lt (by omega : i < F) (by omega : F < 2 ^ 31), if_true, zl_61, zok6, zix6, true_and, e2']
    by_cases q : m + i < 9999
    · have q2 : nI (m + i) < 9999 := nI_lt (b := 9999) q (by omega)
      simp only [if_pos q2]
      refine c144 (n := n) (τ := τ) (by rw [e61]; exact hB'.1.1) h10 (by rw [e61]; exact zTR_cong (stepN_keep h10 (Or.inr (Or.inl rfl)) i) (fun k hk => stepN_keep h10 (by omega) i) hT) (by rw [e61]; exact hB'.2.2.2.1.1) (by rw [e61]; exact hB'.2.2.2.1.2) (by rw [e61]; exact hB'.2.2.2.2.1.1) (by rw [e61]; exact hB'.2.2.2.2.1.2) (fun h2 e2 e2b => ?_)
      simp only [↓r145_0, ↓r145_1, ↓r145_2, ↓r145_3, ↓r145_6, ↓r145_9, ↓r145_12, ↓r145_14, ↓r145_15, ↓r145_16, ↓r145_19, ↓r145_20, ↓r145_21, ↓r145_22, ↓r145_23, ↓r145_25, ↓r145_26, ↓r145_29, ↓r145_30, ↓r145_33, ↓r145_34, ↓r145_35, ↓r145_38, ↓r145_41, ↓r145_42, ↓r145_45, ↓r145_48, ↓r145_51, ↓r145_52, ↓r145_55, ↓r145_56, ↓r145_57, ↓r145_58, ↓r145_59, Option.toList, List.cons_append, List.nil_append, nI_1]
      have e60 : h' 60 = h 60 := e _ (by omega) (by omega) (by omega)
      rw [e61, e60] at e2b
      exact ih (i + 1) h2 (by omega) (by omega) (sr_tr e e2) e2b
    · have q3 : m + i = 9999 := by omega
      have q2 : ¬ nI (m + i) < 9999 := by rw [q3]; decide
      simp only [if_neg q2]
      exact hQ i h' (Or.inr ⟨by omega, q3⟩) e e61
theorem zRel_steps {h1 h2 : zH} (hR : zRelN h n m N) (hm : m + f ≤ 9999) (e1 : sq 10 h h1) (hV : zV h1 10 (stepN τ u n f (h 61))) (e2 : sr h1 h2) (e61 : h2 61 = stepN τ u n f (h 61)) : zRelN h2 n (m + f) N := by
  have hSt := hR.1.1
  have h10 := hSt.2.1.1.2
  refine zRel_set hR (fun c a b c1 c2 c3 => ?_) ?_ ?_ ?_ ?_ ?_ hm
  · rw [e2 _ b c2 c3]
    exact e1.1 _ (by omega) (by omega) (by omega) (by omega) (by omega) c1
  · rw [e2 10 (by omega) (by omega) (by omega)]; exact e1.2
  · rw [e61]
    exact zV_rows hV (e2 _ (by omega) (by omega) (by omega)) (fun j hj => e2 _ (by omega) (by omega) (by omega))
  · rw [e61]
    exact zB_stepN hSt.2.1 f (by omega)
  · rw [e61, stepN_keep h10 (by omega)]
  · intro k hk
    rw [e61, stepN_keep h10 (by omega)]
theorem sq_o (a : sq c h h') (h1 : j ≠ c) (h3 : j ≠ c + 3) (h4 : j ≠ c + 4) (h5 : j ≠ c + 5) (h6 : j ≠ c + 6) (h7 : j ≠ 6) : h' j = h j := a.1 j h1 h3 h4 h5 h6 h7
theorem p_steps : zPair (d + 20) (d + 20) 69 145 [.int x0] := by
  intro h Q2 hR hQ
  have hR0 := hR
  obtain ⟨n, m, N, hRN⟩ := hR
  obtain ⟨⟨hSt, hm⟩, hu, -⟩ := id hRN
  obtain ⟨⟨hn, h10⟩, hld, -, -, -, hs2, -⟩ := hSt.2.1
  obtain ⟨hTC, hTR⟩ := zSt_tau hSt
  have hstep : h 10 10 = nI m := hSt.1.1.2.2.1.trans hs2
  rw [m69]
  simp only [↓r69_0, ↓r69_1, ↓r69_2, ↓r69_4, ↓r69_7, ↓r69_10, ↓r69_12, ↓r69_13, ↓r69_14, ↓r69_17, ↓r69_20, ↓r69_21, ↓r69_22, ↓r69_25, ↓r69_26, ↓r69_29, ↓r69_30, ↓r69_33, ↓r69_36, ↓r69_37, ↓r69_40, ↓r69_43, ↓r69_44, ↓r69_47, ↓r69_50, ↓r69_51, ↓r69_52, zc_10, zc_18, zc_26, zc_0, zc_1, zc_7, zc_60, Nat.reduceAdd, true_and, c103, m1001, hstep, Option.toList, List.cons_append, List.nil_append]
  by_cases g0 : 1 ≤ x0 ∧ x0 ≤ 100
  · obtain ⟨F, hF, rfl⟩ := nI_of2 (M := 100) (n := 100) (by decide) (by have := g0.1; grind) g0.2
    have e10 : (9999 : Int32) - nI m = nI (9999 - m) := nI_sub (a := 9999) hm
    simp (decide := true) only [if_pos g0, ↓reduceIte, e10, nI_ltk (by omega : 9999 - m < 2 ^ 31) (by omega : F < 2 ^ 31)]
    obtain ⟨f, hf⟩ : ∃ f, f = if 9999 - m < F then 9999 - m else F := ⟨_, rfl⟩
    have hf' : (if 9999 - m < F then nI (9999 - m) else nI F) = nI f := by
      rw [hf]
      by_cases g : 9999 - m < F
      · rw [if_pos g, if_pos g]
      · rw [if_neg g, if_neg g]
    have hf1 : f ≤ F ∧ m + f ≤ 9999 ∧ (f = F ∨ m + f = 9999) := by
      by_cases g : 9999 - m < F
      · rw [if_pos g] at hf; omega
      · rw [if_neg g] at hf; omega
    rw [hf']
    refine c53 zst10 hSt.1 hSt.2.1 hTC (by omega) fun h1 e1 hV1 => ?_
    simp only [↓r69_0, ↓r69_1, ↓r69_2, ↓r69_4, ↓r69_7, ↓r69_10, ↓r69_12, ↓r69_13, ↓r69_14, ↓r69_17, ↓r69_20, ↓r69_21, ↓r69_22, ↓r69_25, ↓r69_26, ↓r69_29, ↓r69_30, ↓r69_33, ↓r69_36, ↓r69_37, ↓r69_40, ↓r69_43, ↓r69_44, ↓r69_47, ↓r69_50, ↓r69_51, ↓r69_52, zc_10, zc_18, zc_26, zc_0, zc_1, zc_7, zc_60, Nat.reduceAdd, true_and, Option.toList, List.cons_append, List.nil_append]
    have e61 : h1 61 = h 61 := sq_o e1 (by omega) (by omega) (by omega) (by omega) (by omega) (by omega)
    have e60 : h1 60 = h 60 := sq_o e1 (by omega) (by omega) (by omega) (by omega) (by omega) (by omega)
    have e84 : h1 84 = h 84 := sq_o e1 (by omega) (by omega) (by omega) (by omega) (by omega) (by omega)
    have e85 : h1 85 = h 85 := sq_o e1 (by omega) (by omega) (by omega) (by omega) (by omega) (by omega)
    refine zPo_in e84 e85 ?_
    rw [m145]
    simp (decide := true) only [↓r145_0, ↓r145_1, ↓r145_2, ↓r145_3, ↓r145_6, ↓r145_9, ↓r145_12, ↓r145_14, ↓r145_15, ↓r145_16, ↓r145_19, ↓r145_20, ↓r145_21, ↓r145_22, ↓r145_23, ↓r145_25, ↓r145_26, ↓r145_29, ↓r145_30, ↓r145_33, ↓r145_34, ↓r145_35, ↓r145_38, ↓r145_41, ↓r145_42, ↓r145_45, ↓r145_48, ↓r145_51, ↓r145_52, ↓r145_55, ↓r145_56, ↓r145_57, ↓r145_58, ↓r145_59, c106, if_pos g0, ↓reduceIte, Option.toList, List.cons_append, List.nil_append, zl_61, zok6, zix6, true_and]
    rw [← nI_0, e61]
    refine c145_loop (h := h1) (τ := zTauOf h 10) (n := n) (m := m) hF (by rw [e61]; exact hSt.2.1) (zTR_same e61 hTR) hm (fun i h2 hi e2 e2b => ?_) F 0 h1 (by omega) (by omega) (sr_rf h1) rfl
    have eif : i = f := by omega
    subst eif
    rw [e61, e60] at e2b
    have hu' : h 60 12 = h 10 14 := by rw [hu, hSt.2.2.2.2.2]
    rw [hu'] at e2b
    refine zPq_in ?_ (hQ _ _ ⟨n, m + i, N, zRel_steps hRN hf1.2.1 e1 hV1 e2 e2b⟩ ((e2 _ (by omega) (by omega) (by omega)).trans e84) ((e2 _ (by omega) (by omega) (by omega)).trans e85))
    rw [e2b, hV1.1.2.2.2.2.1, hSt.1.1.2.2.2.2.1]
  · simp (decide := true) only [if_neg g0, ↓reduceIte]
    refine zPo_in rfl rfl ?_
    rw [m145]
    simp (decide := true) only [↓r145_0, ↓r145_1, ↓r145_2, ↓r145_3, ↓r145_6, ↓r145_9, ↓r145_12, ↓r145_14, ↓r145_15, ↓r145_16, ↓r145_19, ↓r145_20, ↓r145_21, ↓r145_22, ↓r145_23, ↓r145_25, ↓r145_26, ↓r145_29, ↓r145_30, ↓r145_33, ↓r145_34, ↓r145_35, ↓r145_38, ↓r145_41, ↓r145_42, ↓r145_45, ↓r145_48, ↓r145_51, ↓r145_52, ↓r145_55, ↓r145_56, ↓r145_57, ↓r145_58, ↓r145_59, c106, if_neg g0, ↓reduceIte, Option.toList, List.cons_append, List.nil_append]
    exact zPq_in rfl (hQ _ _ hR0 rfl rfl)
theorem p_book : zPair (d + 20) (d + 20) 70 147 [.int x0] := by
  intro h Q2 hR hQ
  have hR0 := hR
  obtain ⟨n, m, N, hRN⟩ := hR
  obtain ⟨⟨hSt, hm⟩, hu, -⟩ := id hRN
  obtain ⟨⟨hn, h10⟩, -⟩ := hSt.2.1
  have hn' : h 10 1 = nI n := hSt.1.1.1.trans hn
  obtain ⟨v0, v1, v2, v3, v4, v5⟩ := hSt.1.1
  have c41a := fun (Q' : Option Value → zH → Prop) => c41 (d := d + 18) (Q := Q') (j := 4) (Or.inl rfl) zst10 hn' h10
  have c41b := fun (Q' : Option Value → zH → Prop) => c41 (d := d + 18) (Q := Q') (j := 5) (Or.inr rfl) zst10 hn' h10
  have c146a := fun (Q' : Option Value → zH → Prop) => c146 (d := d + 17) (Q := Q') (w := 3) (x0 := 3) (Or.inl ⟨rfl, rfl⟩) hn h10
  have c146b := fun (Q' : Option Value → zH → Prop) => c146 (d := d + 17) (Q := Q') (w := 4) (x0 := 4) (Or.inr ⟨rfl, rfl⟩) hn h10
  have s1 : zfo (fun i a => a + h (10 + 4) i) n 0 = sSum (h 61) 3 n := zfo_cong (fun i a hi => by rw [(hSt.1.2.2 i (by omega)).2.2.2.1]) _
  have s2 : zfo (fun i a => a + h (10 + 5) i) n 0 = sSum (h 61) 4 n := zfo_cong (fun i a hi => by rw [(hSt.1.2.2 i (by omega)).2.2.2.2]) _
  rw [s1] at c41a
  rw [s2] at c41b
  rw [m70]
  rcases sw9 x0 with rfl | rfl | rfl | rfl | rfl | rfl | rfl | rfl | rfl | ⟨n0, n1, n2, n3, n4, n5, n6, n7, n8⟩
  · simp (decide := true) only [↓reduceIte, ↓r70_0, ↓r70_1, ↓r70_32, ↓r70_33, ↓r70_36, ↓r70_39, ↓r70_40, ↓r70_41, ↓r70_44, ↓r70_47, ↓r70_48, ↓r70_49, ↓r70_52, ↓r70_53, ↓r70_56, ↓r70_59, ↓r70_62, ↓r70_63, ↓r70_64, ↓r70_67, ↓r70_68, ↓r70_71, ↓r70_74, ↓r70_77, ↓r70_78, ↓r70_80, zc_10, zc_18, zc_26, zc_0, zc_1, zc_7, zc_60, Nat.reduceAdd, true_and, Option.toList, List.cons_append, List.nil_append, v3]
    refine zPo_in rfl rfl ?_
    rw [m147]
    simp (decide := true) only [↓reduceIte, ↓r147_0, ↓r147_1, ↓r147_32, ↓r147_33, ↓r147_36, ↓r147_37, ↓r147_38, ↓r147_39, ↓r147_40, ↓r147_43, ↓r147_44, ↓r147_45, ↓r147_46, ↓r147_47, ↓r147_48, ↓r147_51, ↓r147_52, ↓r147_53, ↓r147_54, ↓r147_57, ↓r147_58, ↓r147_60, zc_10, zc_18, zc_26, zc_0, zc_1, zc_7, zc_60, Nat.reduceAdd, true_and, Option.toList, List.cons_append, List.nil_append, zl_61, zok6, zix6]
    exact zPq_in rfl (hQ _ _ hR0 rfl rfl)
  · simp (decide := true) only [↓reduceIte, ↓r70_0, ↓r70_1, ↓r70_32, ↓r70_33, ↓r70_36, ↓r70_39, ↓r70_40, ↓r70_41, ↓r70_44, ↓r70_47, ↓r70_48, ↓r70_49, ↓r70_52, ↓r70_53, ↓r70_56, ↓r70_59, ↓r70_62, ↓r70_63, ↓r70_64, ↓r70_67, ↓r70_68, ↓r70_71, ↓r70_74, ↓r70_77, ↓r70_78, ↓r70_80, zc_10, zc_18, zc_26, zc_0, zc_1, zc_7, zc_60, Nat.reduceAdd, true_and, Option.toList, List.cons_append, List.nil_append, v4]
    refine zPo_in rfl rfl ?_
    rw [m147]
    simp (decide := true) only [↓reduceIte, ↓r147_0, ↓r147_1, ↓r147_32, ↓r147_33, ↓r147_36, ↓r147_37, ↓r147_38, ↓r147_39, ↓r147_40, ↓r147_43, ↓r147_44, ↓r147_45, ↓r147_46, ↓r147_47, ↓r147_48, ↓r147_51, ↓r147_52, ↓r147_53, ↓r147_54, ↓r147_57, ↓r147_58, ↓r147_60, zc_10, zc_18, zc_26, zc_0, zc_1, zc_7, zc_60, Nat.reduceAdd, true_and, Option.toList, List.cons_append, List.nil_append, zl_61, zok6, zix6]
    exact zPq_in rfl (hQ _ _ hR0 rfl rfl)
  · simp (decide := true) only [↓reduceIte, ↓r70_0, ↓r70_1, ↓r70_32, ↓r70_33, ↓r70_36, ↓r70_39, ↓r70_40, ↓r70_41, ↓r70_44, ↓r70_47, ↓r70_48, ↓r70_49, ↓r70_52, ↓r70_53, ↓r70_56, ↓r70_59, ↓r70_62, ↓r70_63, ↓r70_64, ↓r70_67, ↓r70_68, ↓r70_71, ↓r70_74, ↓r70_77, ↓r70_78, ↓r70_80, zc_10, zc_18, zc_26, zc_0, zc_1, zc_7, zc_60, Nat.reduceAdd, true_and, Option.toList, List.cons_append, List.nil_append, c41a]
    refine zPo_in rfl rfl ?_
    rw [m147]
    simp (decide := true) only [↓reduceIte, ↓r147_0, ↓r147_1, ↓r147_32, ↓r147_33, ↓r147_36, ↓r147_37, ↓r147_38, ↓r147_39, ↓r147_40, ↓r147_43, ↓r147_44, ↓r147_45, ↓r147_46, ↓r147_47, ↓r147_48, ↓r147_51, ↓r147_52, ↓r147_53, ↓r147_54, ↓r147_57, ↓r147_58, ↓r147_60, zc_10, zc_18, zc_26, zc_0, zc_1, zc_7, zc_60, Nat.reduceAdd, true_and, Option.toList, List.cons_append, List.nil_append, c146a]
    exact zPq_in rfl (hQ _ _ hR0 rfl rfl)
  · simp (decide := true) only [↓reduceIte, ↓r70_0, ↓r70_1, ↓r70_32, ↓r70_33, ↓r70_36, ↓r70_39, ↓r70_40, ↓r70_41, ↓r70_44, ↓r70_47, ↓r70_48, ↓r70_49, ↓r70_52, ↓r70_53, ↓r70_56, ↓r70_59, ↓r70_62, ↓r70_63, ↓r70_64, ↓r70_67, ↓r70_68, ↓r70_71, ↓r70_74, ↓r70_77, ↓r70_78, ↓r70_80, zc_10, zc_18, zc_26, zc_0, zc_1, zc_7, zc_60, Nat.reduceAdd, true_and, Option.toList, List.cons_append, List.nil_append, c41b]
    refine zPo_in rfl rfl ?_
    rw [m147]
    simp (decide := true) only [↓reduceIte, ↓r147_0, ↓r147_1, ↓r147_32, ↓r147_33, ↓r147_36, ↓r147_37, ↓r147_38, ↓r147_39, ↓r147_40, ↓r147_43, ↓r147_44, ↓r147_45, ↓r147_46, ↓r147_47, ↓r147_48, ↓r147_51, ↓r147_52, ↓r147_53, ↓r147_54, ↓r147_57, ↓r147_58, ↓r147_60, zc_10, zc_18, zc_26, zc_0, zc_1, zc_7, zc_60, Nat.reduceAdd, true_and, Option.toList, List.cons_append, List.nil_append, c146b]
    exact zPq_in rfl (hQ _ _ hR0 rfl rfl)
  · simp (decide := true) only [↓reduceIte, ↓r70_0, ↓r70_1, ↓r70_32, ↓r70_33, ↓r70_36, ↓r70_39, ↓r70_40, ↓r70_41, ↓r70_44, ↓r70_47, ↓r70_48, ↓r70_49, ↓r70_52, ↓r70_53, ↓r70_56, ↓r70_59, ↓r70_62, ↓r70_63, ↓r70_64, ↓r70_67, ↓r70_68, ↓r70_71, ↓r70_74, ↓r70_77, ↓r70_78, ↓r70_80, zc_10, zc_18, zc_26, zc_0, zc_1, zc_7, zc_60, Nat.reduceAdd, true_and, Option.toList, List.cons_append, List.nil_append]
    refine zPo_in rfl rfl ?_
    rw [m147]
    simp (decide := true) only [↓reduceIte, ↓r147_0, ↓r147_1, ↓r147_32, ↓r147_33, ↓r147_36, ↓r147_37, ↓r147_38, ↓r147_39, ↓r147_40, ↓r147_43, ↓r147_44, ↓r147_45, ↓r147_46, ↓r147_47, ↓r147_48, ↓r147_51, ↓r147_52, ↓r147_53, ↓r147_54, ↓r147_57, ↓r147_58, ↓r147_60, zc_10, zc_18, zc_26, zc_0, zc_1, zc_7, zc_60, Nat.reduceAdd, true_and, Option.toList, List.cons_append, List.nil_append]
    exact zPq_in rfl (hQ _ _ hR0 rfl rfl)
  · simp (decide := true) only [↓reduceIte, ↓r70_0, ↓r70_1, ↓r70_32, ↓r70_33, ↓r70_36, ↓r70_39, ↓r70_40, ↓r70_41, ↓r70_44, ↓r70_47, ↓r70_48, ↓r70_49, ↓r70_52, ↓r70_53, ↓r70_56, ↓r70_59, ↓r70_62, ↓r70_63, ↓r70_64, ↓r70_67, ↓r70_68, ↓r70_71, ↓r70_74, ↓r70_77, ↓r70_78, ↓r70_80, zc_10, zc_18, zc_26, zc_0, zc_1, zc_7, zc_60, Nat.reduceAdd, true_and, Option.toList, List.cons_append, List.nil_append]
    refine zPo_in rfl rfl ?_
    rw [m147]
    simp (decide := true) only [↓reduceIte, ↓r147_0, ↓r147_1, ↓r147_32, ↓r147_33, ↓r147_36, ↓r147_37, ↓r147_38, ↓r147_39, ↓r147_40, ↓r147_43, ↓r147_44, ↓r147_45, ↓r147_46, ↓r147_47, ↓r147_48, ↓r147_51, ↓r147_52, ↓r147_53, ↓r147_54, ↓r147_57, ↓r147_58, ↓r147_60, zc_10, zc_18, zc_26, zc_0, zc_1, zc_7, zc_60, Nat.reduceAdd, true_and, Option.toList, List.cons_append, List.nil_append]
    exact zPq_in rfl (hQ _ _ hR0 rfl rfl)
  · simp (decide := true) only [↓reduceIte, ↓r70_0, ↓r70_1, ↓r70_32, ↓r70_33, ↓r70_36, ↓r70_39, ↓r70_40, ↓r70_41, ↓r70_44, ↓r70_47, ↓r70_48, ↓r70_49, ↓r70_52, ↓r70_53, ↓r70_56, ↓r70_59, ↓r70_62, ↓r70_63, ↓r70_64, ↓r70_67, ↓r70_68, ↓r70_71, ↓r70_74, ↓r70_77, ↓r70_78, ↓r70_80, zc_10, zc_18, zc_26, zc_0, zc_1, zc_7, zc_60, Nat.reduceAdd, true_and, Option.toList, List.cons_append, List.nil_append]
    refine zPo_in rfl rfl ?_
    rw [m147]
    simp (decide := true) only [↓reduceIte, ↓r147_0, ↓r147_1, ↓r147_32, ↓r147_33, ↓r147_36, ↓r147_37, ↓r147_38, ↓r147_39, ↓r147_40, ↓r147_43, ↓r147_44, ↓r147_45, ↓r147_46, ↓r147_47, ↓r147_48, ↓r147_51, ↓r147_52, ↓r147_53, ↓r147_54, ↓r147_57, ↓r147_58, ↓r147_60, zc_10, zc_18, zc_26, zc_0, zc_1, zc_7, zc_60, Nat.reduceAdd, true_and, Option.toList, List.cons_append, List.nil_append]
    exact zPq_in rfl (hQ _ _ hR0 rfl rfl)
  · simp (decide := true) only [↓reduceIte, ↓r70_0, ↓r70_1, ↓r70_32, ↓r70_33, ↓r70_36, ↓r70_39, ↓r70_40, ↓r70_41, ↓r70_44, ↓r70_47, ↓r70_48, ↓r70_49, ↓r70_52, ↓r70_53, ↓r70_56, ↓r70_59, ↓r70_62, ↓r70_63, ↓r70_64, ↓r70_67, ↓r70_68, ↓r70_71, ↓r70_74, ↓r70_77, ↓r70_78, ↓r70_80, zc_10, zc_18, zc_26, zc_0, zc_1, zc_7, zc_60, Nat.reduceAdd, true_and, Option.toList, List.cons_append, List.nil_append]
    refine zPo_in rfl rfl ?_
    rw [m147]
    simp (decide := true) only [↓reduceIte, ↓r147_0, ↓r147_1, ↓r147_32, ↓r147_33, ↓r147_36, ↓r147_37, ↓r147_38, ↓r147_39, ↓r147_40, ↓r147_43, ↓r147_44, ↓r147_45, ↓r147_46, ↓r147_47, ↓r147_48, ↓r147_51, ↓r147_52, ↓r147_53, ↓r147_54, ↓r147_57, ↓r147_58, ↓r147_60, zc_10, zc_18, zc_26, zc_0, zc_1, zc_7, zc_60, Nat.reduceAdd, true_and, Option.toList, List.cons_append, List.nil_append]
    exact zPq_in rfl (hQ _ _ hR0 rfl rfl)
  · simp (decide := true) only [↓reduceIte, ↓r70_0, ↓r70_1, ↓r70_32, ↓r70_33, ↓r70_36, ↓r70_39, ↓r70_40, ↓r70_41, ↓r70_44, ↓r70_47, ↓r70_48, ↓r70_49, ↓r70_52, ↓r70_53, ↓r70_56, ↓r70_59, ↓r70_62, ↓r70_63, ↓r70_64, ↓r70_67, ↓r70_68, ↓r70_71, ↓r70_74, ↓r70_77, ↓r70_78, ↓r70_80, zc_10, zc_18, zc_26, zc_0, zc_1, zc_7, zc_60, Nat.reduceAdd, true_and, Option.toList, List.cons_append, List.nil_append]
    refine zPo_in rfl rfl ?_
    rw [m147]
    simp (decide := true) only [↓reduceIte, ↓r147_0, ↓r147_1, ↓r147_32, ↓r147_33, ↓r147_36, ↓r147_37, ↓r147_38, ↓r147_39, ↓r147_40, ↓r147_43, ↓r147_44, ↓r147_45, ↓r147_46, ↓r147_47, ↓r147_48, ↓r147_51, ↓r147_52, ↓r147_53, ↓r147_54, ↓r147_57, ↓r147_58, ↓r147_60, zc_10, zc_18, zc_26, zc_0, zc_1, zc_7, zc_60, Nat.reduceAdd, true_and, Option.toList, List.cons_append, List.nil_append]
    exact zPq_in rfl (hQ _ _ hR0 rfl rfl)
  · simp (decide := true) only [↓reduceIte, ↓r70_0, ↓r70_1, ↓r70_32, ↓r70_33, ↓r70_36, ↓r70_39, ↓r70_40, ↓r70_41, ↓r70_44, ↓r70_47, ↓r70_48, ↓r70_49, ↓r70_52, ↓r70_53, ↓r70_56, ↓r70_59, ↓r70_62, ↓r70_63, ↓r70_64, ↓r70_67, ↓r70_68, ↓r70_71, ↓r70_74, ↓r70_77, ↓r70_78, ↓r70_80, zc_10, zc_18, zc_26, zc_0, zc_1, zc_7, zc_60, Nat.reduceAdd, true_and, Option.toList, List.cons_append, List.nil_append, if_neg n0, if_neg n1, if_neg n2, if_neg n3]
    refine zPo_in rfl rfl ?_
    rw [m147]
    simp (decide := true) only [↓reduceIte, ↓r147_0, ↓r147_1, ↓r147_32, ↓r147_33, ↓r147_36, ↓r147_37, ↓r147_38, ↓r147_39, ↓r147_40, ↓r147_43, ↓r147_44, ↓r147_45, ↓r147_46, ↓r147_47, ↓r147_48, ↓r147_51, ↓r147_52, ↓r147_53, ↓r147_54, ↓r147_57, ↓r147_58, ↓r147_60, zc_10, zc_18, zc_26, zc_0, zc_1, zc_7, zc_60, Nat.reduceAdd, true_and, Option.toList, List.cons_append, List.nil_append, if_neg n0, if_neg n1, if_neg n2, if_neg n3]
    exact zPq_in rfl (hQ _ _ hR0 rfl rfl)
theorem hiR_in (P : Nat → Bool) : ∀ f i, i + f ≤ 1000 → hiR P f i = -1 ∨ ∃ j, j < 1000 ∧ hiR P f i = nI j
  | 0, _, _ => Or.inl rfl
  | f + 1, i, h => by
    show (if P i = true then nI i else hiR P f (i + 1)) = -1 ∨ ∃ j, j < 1000 ∧ (if P i = true then nI i else hiR P f (i + 1)) = nI j
    by_cases g : P i = true
    · rw [if_pos g]; exact Or.inr ⟨i, by omega, rfl⟩
    · rw [if_neg g]; exact hiR_in P f (i + 1) (by omega)
theorem c71 {P : Nat → Bool} (hV : zV h 10 s) (hT : zTC h 10 τ) (hP : ∀ i, P i = true ↔ ¬ pPull (τ 1) (nI i) 0 (s 7) ≤ s 10) (hQ : ∀ h', sc h h' → Q (some (.int (if hiR P 100 0 < 0 then -1000000005 else hiR P 100 0))) h') : zM (d + 5) 71 [.ref 0] h Q := by
  have main : ∀ (f i : Nat) (h' : zH), i + f = 100 → sc h h' → (∀ h'', sc h h'' → Q (some (.int (if hiR P f i < 0 then -1000000005 else hiR P f i))) h'') → zR (d + 4) 71 Q 2 [some (.ref 0), some (.int (nI i))] [] h' := by
    intro f
    induction f with
    | zero =>
      intro i h' hi e hQ
      have hi' : i = 100 := by omega
      subst hi'
      rw [r71_2]
      simp (decide := true) only [↓reduceIte, ↓r71_0, ↓r71_1, ↓r71_3, ↓r71_5, ↓r71_8, ↓r71_9, ↓r71_12, ↓r71_13, ↓r71_14, ↓r71_17, ↓r71_18, ↓r71_21, ↓r71_24, ↓r71_25, ↓r71_26, ↓r71_29, ↓r71_30, ↓r71_31, ↓r71_34, ↓r71_37, ↓r71_39]
      exact hQ h' e
    | succ f ih =>
      intro i h' hi e hQ
      have q : nI i ≤ 99 := nI_le (b := 99) (by omega) (by omega)
      rw [r71_2]
      simp only [↓r71_0, ↓r71_1, ↓r71_3, ↓r71_5, ↓r71_8, ↓r71_9, ↓r71_12, ↓r71_13, ↓r71_14, ↓r71_17, ↓r71_18, ↓r71_21, ↓r71_24, ↓r71_25, ↓r71_26, ↓r71_29, ↓r71_30, ↓r71_31, ↓r71_34, ↓r71_37, ↓r71_39, if_pos q, zc_10, zc_18, zc_26, zc_0, zc_1, zc_7, zc_60, Nat.reduceAdd, true_and]
      refine d45 zst10 (zTC_sc zst10 e hT) fun h2 e2 => ?_
      have eV := zV_sc zst10 (sc_tr e e2) hV
      have ea : h2 (10 + 6) 4 = s 10 := eV.2.1.2.2.2.2.1
      have eb : h' (10 + 6) 1 = s 7 := (zV_sc zst10 e hV).2.1.2.1
      simp only [↓r71_0, ↓r71_1, ↓r71_3, ↓r71_5, ↓r71_8, ↓r71_9, ↓r71_12, ↓r71_13, ↓r71_14, ↓r71_17, ↓r71_18, ↓r71_21, ↓r71_24, ↓r71_25, ↓r71_26, ↓r71_29, ↓r71_30, ↓r71_31, ↓r71_34, ↓r71_37, ↓r71_39, Option.toList, List.cons_append, List.nil_append, zc_10, zc_18, zc_26, zc_0, zc_1, zc_7, zc_60, Nat.reduceAdd, true_and, zl_16, zoks, zixs, ea, eb]
      by_cases g : P i = true
      · have hQ' := hQ h2 (sc_tr e e2)
        simp only [hiR, if_pos g, if_neg (nI_pos (by omega : i < 2 ^ 31))] at hQ'
        rw [if_neg ((hP i).mp g)]
        exact hQ'
      · have g2 : pPull (τ 1) (nI i) 0 (s 7) ≤ s 10 := Decidable.byContradiction fun z => g ((hP i).mpr z)
        rw [if_pos g2, nI_1]
        refine ih (i + 1) h2 (by omega) (sc_tr e e2) fun h3 e3 => ?_
        have hQ' := hQ h3 e3
        simp only [hiR, if_neg g] at hQ'
        exact hQ'
  rw [m71]
  simp only [↓r71_0, ↓r71_1, ↓r71_3, ↓r71_5, ↓r71_8, ↓r71_9, ↓r71_12, ↓r71_13, ↓r71_14, ↓r71_17, ↓r71_18, ↓r71_21, ↓r71_24, ↓r71_25, ↓r71_26, ↓r71_29, ↓r71_30, ↓r71_31, ↓r71_34, ↓r71_37, ↓r71_39]
  rw [← nI_0]
  exact main 100 0 h (by omega) (sc_rf h) hQ
theorem upd_self {s : Nat → Int32} {k : Nat} : upd s k (s k) = s := by
  funext j
  rw [zup_ap]
  by_cases g : j = k
  · rw [if_pos g, g]
  · rw [if_neg g]
theorem c148 {P : Nat → Bool} (hT : zTR (h 61) τ) (hP : ∀ i, P i = true ↔ ¬ pPull (τ 1) (nI i) 0 (h 61 7) ≤ h 61 10) (hQ : ∀ h', sr h h' → h' 61 = h 61 → Q (some (.int (if hiR P 100 0 < 0 then -1000000005 else hiR P 100 0))) h') : zM (d + 5) 148 [.ref 60] h Q := by
  have main : ∀ (i : Nat) (x : Int32) (h' : zH), i ≤ 100 → sr h h' → h' 61 = upd (h 61) 9 x → zR (d + 4) 148 Q 13 [some (.ref 60), some (.int (h 61 9)), some (.int (hiR P (100 - i) i)), some (.int (nI i - 1))] [] h' := by
    intro i
    induction i with
    | zero =>
      intro x h' hi e e61
      have q : nI 0 - 1 < 0 := by decide
      rw [r148_13]
      simp only [↓r148_0, ↓r148_1, ↓r148_4, ↓r148_6, ↓r148_7, ↓r148_8, ↓r148_9, ↓r148_10, ↓r148_12, ↓r148_14, ↓r148_17, ↓r148_18, ↓r148_21, ↓r148_23, ↓r148_24, ↓r148_25, ↓r148_26, ↓r148_27, ↓r148_30, ↓r148_31, ↓r148_34, ↓r148_36, ↓r148_37, ↓r148_40, ↓r148_41, ↓r148_44, ↓r148_45, ↓r148_46, ↓r148_49, ↓r148_52, ↓r148_53, ↓r148_56, ↓r148_58, ↓r148_59, ↓r148_60, ↓r148_61, ↓r148_64, if_pos q, zc_10, zc_18, zc_26, zc_0, zc_1, zc_7, zc_60, Nat.reduceAdd, true_and, zs_61, zoks, zixs, c107, Option.toList, List.cons_append, List.nil_append]
      refine hQ _ (fun c a b d => by rw [zhr_ne _ _ a]; exact e c a b d) ?_
      rw [zhr_same, e61, upd_upd, upd_self]
    | succ i ih =>
      intro x h' hi e e61
      rw [nI_s1 (by omega), show i + 1 - 1 = i by omega]
      have q : ¬ nI i < 0 := nI_pos (by omega)
      have kk : ∀ k, k ≠ 9 → zhr h' 61 (upd (h' 61) 9 (nI i)) 61 k = h 61 k := fun k hk => by rw [zhr_same, pk_un hk, e61, pk_un hk]
      rw [r148_13]
      simp only [↓r148_0, ↓r148_1, ↓r148_4, ↓r148_6, ↓r148_7, ↓r148_8, ↓r148_9, ↓r148_10, ↓r148_12, ↓r148_14, ↓r148_17, ↓r148_18, ↓r148_21, ↓r148_23, ↓r148_24, ↓r148_25, ↓r148_26, ↓r148_27, ↓r148_30, ↓r148_31, ↓r148_34, ↓r148_36, ↓r148_37, ↓r148_40, ↓r148_41, ↓r148_44, ↓r148_45, ↓r148_46, ↓r148_49, ↓r148_52, ↓r148_53, ↓r148_56, ↓r148_58, ↓r148_59, ↓r148_60, ↓r148_61, ↓r148_64, if_neg q, zc_10, zc_18, zc_26, zc_0, zc_1, zc_7, zc_60, Nat.reduceAdd, true_and, zs_61, zoks, zixs]
      refine d134 (τ := τ) (zTR_cong (kk 1 (by omega)) (fun k hk => kk k (by omega)) hT) fun h2 e2 => ?_
      have ea : h2 61 = zhr h' 61 (upd (h' 61) 9 (nI i)) 61 := e2 61 (by omega) (by omega)
      have e9 : zhr h' 61 (upd (h' 61) 9 (nI i)) 61 9 = nI i := by rw [zhr_same]; exact pk_us
      have e10 : h2 61 10 = h 61 10 := by rw [ea]; exact kk 10 (by omega)
      rw [e9, kk 7 (by omega)]
      simp only [↓r148_0, ↓r148_1, ↓r148_4, ↓r148_6, ↓r148_7, ↓r148_8, ↓r148_9, ↓r148_10, ↓r148_12, ↓r148_14, ↓r148_17, ↓r148_18, ↓r148_21, ↓r148_23, ↓r148_24, ↓r148_25, ↓r148_26, ↓r148_27, ↓r148_30, ↓r148_31, ↓r148_34, ↓r148_36, ↓r148_37, ↓r148_40, ↓r148_41, ↓r148_44, ↓r148_45, ↓r148_46, ↓r148_49, ↓r148_52, ↓r148_53, ↓r148_56, ↓r148_58, ↓r148_59, ↓r148_60, ↓r148_61, ↓r148_64, Option.toList, List.cons_append, List.nil_append, zc_10, zc_18, zc_26, zc_0, zc_1, zc_7, zc_60, Nat.reduceAdd, true_and, zl_61, zok6, zix6, e10]
      have em : nI i + -1 = nI i - 1 := by grind
      have e' : sr h h2 := fun c a b d => by rw [e2 c b d, zhr_ne _ _ a]; exact e c a b d
      have e61' : h2 61 = upd (h 61) 9 (nI i) := by rw [ea, zhr_same, e61, upd_upd]
      have hh : hiR P (100 - i) i = if P i = true then nI i else hiR P (100 - (i + 1)) (i + 1) := by
        rw [show 100 - i = (100 - (i + 1)) + 1 by omega]; rfl
      have := ih (nI i) h2 (by omega) e' e61'
      rw [hh] at this
      by_cases g : P i = true
      · rw [if_pos g] at this
        rw [if_neg ((hP i).mp g), em]
        exact this
      · have g2 : pPull (τ 1) (nI i) 0 (h 61 7) ≤ h 61 10 := Decidable.byContradiction fun z => g ((hP i).mpr z)
        rw [if_neg g] at this
        rw [if_pos g2, em]
        exact this
  rw [m148]
  simp only [↓r148_0, ↓r148_1, ↓r148_4, ↓r148_6, ↓r148_7, ↓r148_8, ↓r148_9, ↓r148_10, ↓r148_12, ↓r148_14, ↓r148_17, ↓r148_18, ↓r148_21, ↓r148_23, ↓r148_24, ↓r148_25, ↓r148_26, ↓r148_27, ↓r148_30, ↓r148_31, ↓r148_34, ↓r148_36, ↓r148_37, ↓r148_40, ↓r148_41, ↓r148_44, ↓r148_45, ↓r148_46, ↓r148_49, ↓r148_52, ↓r148_53, ↓r148_56, ↓r148_58, ↓r148_59, ↓r148_60, ↓r148_61, ↓r148_64, zl_61, zoks, zixs, true_and]
  have := main 100 (h 61 9) h (by omega) (sr_rf h) upd_self.symm
  exact this
theorem p_high : zPair (d + 20) (d + 20) 71 148 [] := by
  intro h Q2 hR hQ
  obtain ⟨n, m, N, hRN⟩ := hR
  obtain ⟨⟨hSt, hm⟩, -⟩ := id hRN
  obtain ⟨hTC, hTR⟩ := zSt_tau hSt
  have hP : ∀ i : Nat, (fun i => decide (¬ pPull (zTauOf h 10 1) (nI i) 0 (h 61 7) ≤ h 61 10)) i = true ↔ ¬ pPull (zTauOf h 10 1) (nI i) 0 (h 61 7) ≤ h 61 10 := fun i => decide_eq_true_iff
  refine c71 hSt.1 hTC hP fun h1 e1 => ?_
  refine zPo_in (e1 _ (by omega)) (e1 _ (by omega)) ?_
  have e61 : h1 61 = h 61 := e1 _ (by omega)
  refine c148 (τ := zTauOf h 10) (zTR_same e61 hTR) (by rw [e61]; exact hP) fun h2 e2 e2b => ?_
  refine zPq_in rfl (hQ _ _ ⟨n, m, N, zRel_keep hRN (fun c a b d => ?_)⟩ ((e2 _ (by omega) (by omega) (by omega)).trans (e1 _ (by omega))) ((e2 _ (by omega) (by omega) (by omega)).trans (e1 _ (by omega))))
  by_cases g : c = 61
  · subst g
    rw [e2b, e61]
  · exact (e2 c g b d).trans (e1 c a)
end
