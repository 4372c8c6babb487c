/-! what is only thought: patience, left -/
section
variable {d : Nat} {x0 x1 x2 x3 x4 v x z a u : Int32} {h h' h1 h2 : zH} {n m N n' m' k w j f b c t i F : Nat} {s row row' : Nat → Int32} {Q : Option Value → zH → Prop} {τ : zTau}
theorem c75_loop (hV : zV h 10 s) (hT : zTC h 10 τ) (h14 : h 10 14 = -1) (hB : zB s n m) (hf : f ≤ 100) (hm : m ≤ 9999) (hQ : ∀ h1, td h h1 → zR (d + 8) 75 Q 102 [some (.ref 0), some (.int (nI f)), some (.int x1), some (.int (zfo (pkC moreB (paV τ n f s)) 11 (0, 0)).1), some (.int (zfo (pkC moreB (paV τ n f s)) 11 (0, 0)).2), some (.int (nI 11))] [] h1) : ∀ (g i : Nat) (h1 : zH), i + g = 11 → td h h1 → zR (d + 8) 75 Q 30 [some (.ref 0), some (.int (nI f)), some (.int x1), some (.int (zfo (pkC moreB (paV τ n f s)) i (0, 0)).1), some (.int (zfo (pkC moreB (paV τ n f s)) i (0, 0)).2), some (.int (nI i))] [] h1 := by
  intro g
  induction g with
  | zero =>
    intro i h1 hi e
    have hi' : i = 11 := by omega
    subst hi'
    rw [r75_30]
    simp (decide := true) only [↓r75_0, ↓r75_1, ↓r75_2, ↓r75_4, ↓r75_7, ↓r75_10, ↓r75_11, ↓r75_12, ↓r75_13, ↓r75_16, ↓r75_19, ↓r75_21, ↓r75_22, ↓r75_23, ↓r75_24, ↓r75_25, ↓r75_27, ↓r75_28, ↓r75_32, ↓r75_34, ↓r75_37, ↓r75_38, ↓r75_41, ↓r75_42, ↓r75_45, ↓r75_48, ↓r75_49, ↓r75_52, ↓r75_55, ↓r75_56, ↓r75_58, ↓r75_59, ↓r75_60, ↓r75_63, ↓r75_64, ↓r75_67, ↓r75_69, ↓r75_72, ↓r75_73, ↓r75_76, ↓r75_79, ↓r75_81, ↓r75_84, ↓r75_86, ↓r75_87, ↓r75_88, ↓r75_91, ↓r75_94, ↓r75_96, ↓r75_99, ↓r75_103, ↓r75_106, ↓r75_107, ↓r75_110, ↓r75_112, ↓reduceIte]
    exact hQ h1 e
  | succ g ih =>
    intro i h1 hi e
    have q : nI i ≤ 10 := nI_le (b := 10) (by omega) (by omega)
    rw [r75_30]
    simp only [↓r75_0, ↓r75_1, ↓r75_2, ↓r75_4, ↓r75_7, ↓r75_10, ↓r75_11, ↓r75_12, ↓r75_13, ↓r75_16, ↓r75_19, ↓r75_21, ↓r75_22, ↓r75_23, ↓r75_24, ↓r75_25, ↓r75_27, ↓r75_28, ↓r75_32, ↓r75_34, ↓r75_37, ↓r75_38, ↓r75_41, ↓r75_42, ↓r75_45, ↓r75_48, ↓r75_49, ↓r75_52, ↓r75_55, ↓r75_56, ↓r75_58, ↓r75_59, ↓r75_60, ↓r75_63, ↓r75_64, ↓r75_67, ↓r75_69, ↓r75_72, ↓r75_73, ↓r75_76, ↓r75_79, ↓r75_81, ↓r75_84, ↓r75_86, ↓r75_87, ↓r75_88, ↓r75_91, ↓r75_94, ↓r75_96, ↓r75_99, ↓r75_103, ↓r75_106, ↓r75_107, ↓r75_110, ↓r75_112, if_pos q, zc_10, zc_18, zc_26, zc_0, zc_1, zc_7, zc_60, Nat.reduceAdd, true_and, Option.toList, List.cons_append, List.nil_append]
    refine th_become hV hT h14 (Or.inl rfl) e fun h2 e2 hV2 hT2 h14' => ?_
    simp only [↓r75_0, ↓r75_1, ↓r75_2, ↓r75_4, ↓r75_7, ↓r75_10, ↓r75_11, ↓r75_12, ↓r75_13, ↓r75_16, ↓r75_19, ↓r75_21, ↓r75_22, ↓r75_23, ↓r75_24, ↓r75_25, ↓r75_27, ↓r75_28, ↓r75_32, ↓r75_34, ↓r75_37, ↓r75_38, ↓r75_41, ↓r75_42, ↓r75_45, ↓r75_48, ↓r75_49, ↓r75_52, ↓r75_55, ↓r75_56, ↓r75_58, ↓r75_59, ↓r75_60, ↓r75_63, ↓r75_64, ↓r75_67, ↓r75_69, ↓r75_72, ↓r75_73, ↓r75_76, ↓r75_79, ↓r75_81, ↓r75_84, ↓r75_86, ↓r75_87, ↓r75_88, ↓r75_91, ↓r75_94, ↓r75_96, ↓r75_99, ↓r75_103, ↓r75_106, ↓r75_107, ↓r75_110, ↓r75_112, zc_10, zc_18, zc_26, zc_0, zc_1, zc_7, zc_60, Nat.reduceAdd, true_and, zs_32, zoks, zixs, Option.toList, List.cons_append, List.nil_append]
    have hV3 : zV (zhr h2 32 (upd (h2 32) 5 (nI i))) 26 (upd s 11 (nI i)) := zV_rule (j := 5) (by omega) hV2
    have hB3 : zB (upd s 11 (nI i)) n m := zB_rule (j := 5) hB (Or.inr (Or.inr (Or.inr (Or.inr (Or.inr rfl)))))
    refine th_go (u := -1) hV3 (zTC_o (by rw [zhr_ne _ _ (by omega)]) (by rw [zhr_ne _ _ (by omega)]) (by rw [zhr_ne _ _ (by omega)]) hT2) (by rw [zhr_ne _ _ (by omega)]; exact h14') hB3 (by omega) (td_tr e2 (fun c x y => zhr_ne _ _ (by omega))) fun h4 e4 hV4 hT4 h144 => ?_
    have v9 : h4 26 9 = paV τ n f s i := hV4.1.2.2.2.2.1
    simp only [↓r75_0, ↓r75_1, ↓r75_2, ↓r75_4, ↓r75_7, ↓r75_10, ↓r75_11, ↓r75_12, ↓r75_13, ↓r75_16, ↓r75_19, ↓r75_21, ↓r75_22, ↓r75_23, ↓r75_24, ↓r75_25, ↓r75_27, ↓r75_28, ↓r75_32, ↓r75_34, ↓r75_37, ↓r75_38, ↓r75_41, ↓r75_42, ↓r75_45, ↓r75_48, ↓r75_49, ↓r75_52, ↓r75_55, ↓r75_56, ↓r75_58, ↓r75_59, ↓r75_60, ↓r75_63, ↓r75_64, ↓r75_67, ↓r75_69, ↓r75_72, ↓r75_73, ↓r75_76, ↓r75_79, ↓r75_81, ↓r75_84, ↓r75_86, ↓r75_87, ↓r75_88, ↓r75_91, ↓r75_94, ↓r75_96, ↓r75_99, ↓r75_103, ↓r75_106, ↓r75_107, ↓r75_110, ↓r75_112, zc_10, zc_18, zc_26, zc_0, zc_1, zc_7, zc_60, Nat.reduceAdd, true_and, v9, Option.toList, List.cons_append, List.nil_append, nI_1]
    have ih' := ih (i + 1) h4 (by omega) e4
    have es : zfo (pkC moreB (paV τ n f s)) (i + 1) (0, 0) = pkC moreB (paV τ n f s) i (zfo (pkC moreB (paV τ n f s)) i (0, 0)) := rfl
    rw [es] at ih'
    generalize zfo (pkC moreB (paV τ n f s)) i (0, 0) = p at ih' ⊢
    by_cases g0 : i = 0
    · have g0' : nI i = 0 := by rw [g0, nI_0]
      unfold pkC at ih'
      rw [if_pos (Or.inl g0)] at ih'
      simp only [if_pos g0']
      exact ih'
    · have g0' : ¬ nI i = 0 := by rw [← nI_0, nI_eq (by omega) (by omega)]; exact g0
      simp only [if_neg g0']
      by_cases g1 : paV τ n f s i ≤ p.2
      · unfold pkC at ih'
        rw [if_neg (fun z => z.elim g0 (moreB_f g1))] at ih'
        simp only [if_pos g1]
        exact ih'
      · unfold pkC at ih'
        rw [if_pos (Or.inr (moreB_t g1))] at ih'
        simp only [if_neg g1]
        exact ih'
theorem c155_loop (hT : zTR (h 61) τ) (hu : h 60 12 = -1) (hB : zB (h 61) n m) (hf : f ≤ 100) (hm : m ≤ 9999) (hQ : ∀ h1 o6, rl h h1 → zR (d + 8) 155 Q 94 [some (.ref 60), some (.int (nI f)), some (.int x1), some (.int (zfo (pkR moreB (paV τ n f (h 61))) 11 (-1, 0)).1), some (.int (zfo (pkR moreB (paV τ n f (h 61))) 11 (-1, 0)).2), some (.int (nI 11)), o6] [] h1) : ∀ (g i : Nat) (h1 : zH) (o6 : Option Value), i + g = 11 → rl h h1 → zR (d + 8) 155 Q 37 [some (.ref 60), some (.int (nI f)), some (.int x1), some (.int (zfo (pkR moreB (paV τ n f (h 61))) i (-1, 0)).1), some (.int (zfo (pkR moreB (paV τ n f (h 61))) i (-1, 0)).2), some (.int (nI i)), o6] [] h1 := by
  intro g
  induction g with
  | zero =>
    intro i h1 o6 hi e
    have hi' : i = 11 := by omega
    subst hi'
    rw [r155_37]
    simp (decide := true) only [↓r155_0, ↓r155_1, ↓r155_2, ↓r155_3, ↓r155_6, ↓r155_9, ↓r155_12, ↓r155_13, ↓r155_14, ↓r155_15, ↓r155_16, ↓r155_19, ↓r155_22, ↓r155_24, ↓r155_25, ↓r155_26, ↓r155_29, ↓r155_30, ↓r155_31, ↓r155_32, ↓r155_34, ↓r155_35, ↓r155_39, ↓r155_41, ↓r155_44, ↓r155_45, ↓r155_48, ↓r155_50, ↓r155_52, ↓r155_53, ↓r155_54, ↓r155_55, ↓r155_58, ↓r155_59, ↓r155_62, ↓r155_63, ↓r155_64, ↓r155_66, ↓r155_67, ↓r155_70, ↓r155_71, ↓r155_74, ↓r155_76, ↓r155_78, ↓r155_81, ↓r155_83, ↓r155_84, ↓r155_86, ↓r155_88, ↓r155_91, ↓r155_95, ↓r155_98, ↓r155_99, ↓r155_102, ↓r155_104, ↓reduceIte]
    exact hQ h1 o6 e
  | succ g ih =>
    intro i h1 o6 hi e
    have h10 := hB.1.2
    have q : nI i ≤ 10 := nI_le (b := 10) (by omega) (by omega)
    rw [r155_37]
    simp only [↓r155_0, ↓r155_1, ↓r155_2, ↓r155_3, ↓r155_6, ↓r155_9, ↓r155_12, ↓r155_13, ↓r155_14, ↓r155_15, ↓r155_16, ↓r155_19, ↓r155_22, ↓r155_24, ↓r155_25, ↓r155_26, ↓r155_29, ↓r155_30, ↓r155_31, ↓r155_32, ↓r155_34, ↓r155_35, ↓r155_39, ↓r155_41, ↓r155_44, ↓r155_45, ↓r155_48, ↓r155_50, ↓r155_52, ↓r155_53, ↓r155_54, ↓r155_55, ↓r155_58, ↓r155_59, ↓r155_62, ↓r155_63, ↓r155_64, ↓r155_66, ↓r155_67, ↓r155_70, ↓r155_71, ↓r155_74, ↓r155_76, ↓r155_78, ↓r155_81, ↓r155_83, ↓r155_84, ↓r155_86, ↓r155_88, ↓r155_91, ↓r155_95, ↓r155_98, ↓r155_99, ↓r155_102, ↓r155_104, if_pos q, zs_61, zok6, zix6, true_and, Option.toList, List.cons_append, List.nil_append]
    have hB3 : zB (upd (h 61) 11 (nI i)) n m := zB_rule (j := 5) hB (Or.inr (Or.inr (Or.inr (Or.inr (Or.inr rfl)))))
    have e60 : h1 60 = h 60 := e.1 _ (by omega) (by omega) (by omega) (by omega)
    refine c152 (n := n) (m := m) (τ := τ) ?_ ?_ (by omega) fun h3 e3 e3b => ?_
    · rw [zhr_same, e.2.1]; exact hB3
    · rw [zhr_same, e.2.1]; exact zTR_cong (pk_un (by omega)) (fun k hk => pk_un (by omega)) hT
    · rw [zhr_ne _ _ (by omega : 60 ≠ 61), zhr_same, e60, e.2.1, hu] at e3b
      have ev : h3 61 4 = paV τ n f (h 61) i := by rw [e3b]; rfl
      simp only [↓r155_0, ↓r155_1, ↓r155_2, ↓r155_3, ↓r155_6, ↓r155_9, ↓r155_12, ↓r155_13, ↓r155_14, ↓r155_15, ↓r155_16, ↓r155_19, ↓r155_22, ↓r155_24, ↓r155_25, ↓r155_26, ↓r155_29, ↓r155_30, ↓r155_31, ↓r155_32, ↓r155_34, ↓r155_35, ↓r155_39, ↓r155_41, ↓r155_44, ↓r155_45, ↓r155_48, ↓r155_50, ↓r155_52, ↓r155_53, ↓r155_54, ↓r155_55, ↓r155_58, ↓r155_59, ↓r155_62, ↓r155_63, ↓r155_64, ↓r155_66, ↓r155_67, ↓r155_70, ↓r155_71, ↓r155_74, ↓r155_76, ↓r155_78, ↓r155_81, ↓r155_83, ↓r155_84, ↓r155_86, ↓r155_88, ↓r155_91, ↓r155_95, ↓r155_98, ↓r155_99, ↓r155_102, ↓r155_104, zl_61, zok6, zix6, ev, true_and, Option.toList, List.cons_append, List.nil_append]
      have e31 : rd h h3 := fun c x y z w => ((e3 c x z w).trans (zhr_ne _ _ x)).trans (e.1 c x y z w)
      have e73 : h3 73 = h1 73 := (e3 73 (by omega) (by omega) (by omega)).trans (zhr_ne _ _ (by omega))
      refine c151 ?_
      simp only [↓r155_0, ↓r155_1, ↓r155_2, ↓r155_3, ↓r155_6, ↓r155_9, ↓r155_12, ↓r155_13, ↓r155_14, ↓r155_15, ↓r155_16, ↓r155_19, ↓r155_22, ↓r155_24, ↓r155_25, ↓r155_26, ↓r155_29, ↓r155_30, ↓r155_31, ↓r155_32, ↓r155_34, ↓r155_35, ↓r155_39, ↓r155_41, ↓r155_44, ↓r155_45, ↓r155_48, ↓r155_50, ↓r155_52, ↓r155_53, ↓r155_54, ↓r155_55, ↓r155_58, ↓r155_59, ↓r155_62, ↓r155_63, ↓r155_64, ↓r155_66, ↓r155_67, ↓r155_70, ↓r155_71, ↓r155_74, ↓r155_76, ↓r155_78, ↓r155_81, ↓r155_83, ↓r155_84, ↓r155_86, ↓r155_88, ↓r155_91, ↓r155_95, ↓r155_98, ↓r155_99, ↓r155_102, ↓r155_104, Option.toList, List.cons_append, List.nil_append, nI_1]
      have e4 := rl_back e e31 e73 (fun k hk => by rw [e3b, stepN_keep h10 (by omega), pk_un (by omega)])
      have ih' := ih (i + 1) _ (some (.int (paV τ n f (h 61) i))) (by omega) e4
      have es : zfo (pkR moreB (paV τ n f (h 61))) (i + 1) (-1, 0) = pkR moreB (paV τ n f (h 61)) i (zfo (pkR moreB (paV τ n f (h 61))) i (-1, 0)) := rfl
      rw [es] at ih'
      generalize zfo (pkR moreB (paV τ n f (h 61))) i (-1, 0) = p at ih' ⊢
      by_cases g0 : p.1 < 0
      · unfold pkR at ih'
        rw [if_pos (Or.inl g0)] at ih'
        simp only [if_pos g0]
        exact ih'
      · simp only [if_neg g0]
        by_cases g1 : paV τ n f (h 61) i ≤ p.2
        · unfold pkR at ih'
          rw [if_neg (fun z => z.elim g0 (moreB_f g1))] at ih'
          simp only [if_pos g1]
          exact ih'
        · unfold pkR at ih'
          rw [if_pos (Or.inr (moreB_t g1))] at ih'
          simp only [if_neg g1]
          exact ih'
theorem p_patience : zPair (d + 20) (d + 20) 75 155 [.int x0, .int x1] := by
  intro h Q2 hR hQ
  have hR0 := hR
  obtain ⟨n, m, N, hRN⟩ := hR
  obtain ⟨⟨hSt, hm⟩, hu, -⟩ := id hRN
  obtain ⟨⟨hn, h10⟩, -⟩ := hSt.2.1
  obtain ⟨hTC, hTR⟩ := zSt_tau hSt
  rw [m75]
  simp only [↓r75_0, ↓r75_1, ↓r75_2, ↓r75_4, ↓r75_7, ↓r75_10, ↓r75_11, ↓r75_12, ↓r75_13, ↓r75_16, ↓r75_19, ↓r75_21, ↓r75_22, ↓r75_23, ↓r75_24, ↓r75_25, ↓r75_27, ↓r75_28, ↓r75_32, ↓r75_34, ↓r75_37, ↓r75_38, ↓r75_41, ↓r75_42, ↓r75_45, ↓r75_48, ↓r75_49, ↓r75_52, ↓r75_55, ↓r75_56, ↓r75_58, ↓r75_59, ↓r75_60, ↓r75_63, ↓r75_64, ↓r75_67, ↓r75_69, ↓r75_72, ↓r75_73, ↓r75_76, ↓r75_79, ↓r75_81, ↓r75_84, ↓r75_86, ↓r75_87, ↓r75_88, ↓r75_91, ↓r75_94, ↓r75_96, ↓r75_99, ↓r75_103, ↓r75_106, ↓r75_107, ↓r75_110, ↓r75_112, zc_10, zc_18, zc_26, zc_0, zc_1, zc_7, zc_60, Nat.reduceAdd, true_and, c103, Option.toList, List.cons_append, List.nil_append]
  by_cases g0 : 1 ≤ x0 ∧ x0 ≤ 60
  · by_cases g1 : 0 ≤ x1 ∧ x1 ≤ 1
    · simp (decide := true) only [if_pos g0, if_pos g1, ↓reduceIte]
      obtain ⟨f, hf, rfl⟩ := nI_of2 (M := 60) (n := 60) (by decide) (by have := g0.1; grind) g0.2
      refine c75_loop (d := d + 11) (n := n) (m := m) hSt.1 hTC hSt.2.2.2.2.2 hSt.2.1 (by omega) hm (fun h1 e1 => ?_) 11 0 h (by omega) td_rf
      have e61 : h1 61 = h 61 := e1 _ (by omega) (by omega)
      have e60 : h1 60 = h 60 := e1 _ (by omega) (by omega)
      have hr : ∀ v, ((if x1 = 0 then (zfo (pkC moreB (paV (zTauOf h 10) n f (h 61))) 11 (0, 0)).1 else (zfo (pkC moreB (paV (zTauOf h 10) n f (h 61))) 11 (0, 0)).2) = v) → zPo h (d + 20) 155 [.int (nI f), .int x1] Q2 (some (.int v)) h1 := by
        intro v hv
        refine zPo_in (e1 _ (by omega) (by omega)) (e1 _ (by omega) (by omega)) ?_
        rw [m155]
        simp (decide := true) only [↓r155_0, ↓r155_1, ↓r155_2, ↓r155_3, ↓r155_6, ↓r155_9, ↓r155_12, ↓r155_13, ↓r155_14, ↓r155_15, ↓r155_16, ↓r155_19, ↓r155_22, ↓r155_24, ↓r155_25, ↓r155_26, ↓r155_29, ↓r155_30, ↓r155_31, ↓r155_32, ↓r155_34, ↓r155_35, ↓r155_39, ↓r155_41, ↓r155_44, ↓r155_45, ↓r155_48, ↓r155_50, ↓r155_52, ↓r155_53, ↓r155_54, ↓r155_55, ↓r155_58, ↓r155_59, ↓r155_62, ↓r155_63, ↓r155_64, ↓r155_66, ↓r155_67, ↓r155_70, ↓r155_71, ↓r155_74, ↓r155_76, ↓r155_78, ↓r155_81, ↓r155_83, ↓r155_84, ↓r155_86, ↓r155_88, ↓r155_91, ↓r155_95, ↓r155_98, ↓r155_99, ↓r155_102, ↓r155_104, c106, if_pos g0, if_pos g1, ↓reduceIte, Option.toList, List.cons_append, List.nil_append]
        refine c150 ?_
        simp only [↓r155_0, ↓r155_1, ↓r155_2, ↓r155_3, ↓r155_6, ↓r155_9, ↓r155_12, ↓r155_13, ↓r155_14, ↓r155_15, ↓r155_16, ↓r155_19, ↓r155_22, ↓r155_24, ↓r155_25, ↓r155_26, ↓r155_29, ↓r155_30, ↓r155_31, ↓r155_32, ↓r155_34, ↓r155_35, ↓r155_39, ↓r155_41, ↓r155_44, ↓r155_45, ↓r155_48, ↓r155_50, ↓r155_52, ↓r155_53, ↓r155_54, ↓r155_55, ↓r155_58, ↓r155_59, ↓r155_62, ↓r155_63, ↓r155_64, ↓r155_66, ↓r155_67, ↓r155_70, ↓r155_71, ↓r155_74, ↓r155_76, ↓r155_78, ↓r155_81, ↓r155_83, ↓r155_84, ↓r155_86, ↓r155_88, ↓r155_91, ↓r155_95, ↓r155_98, ↓r155_99, ↓r155_102, ↓r155_104, Option.toList, List.cons_append, List.nil_append]
        have hh := rl_by (h := h1) trivial
        have key := c155_loop (d := d + 11) (h := h1) (τ := zTauOf h 10) (n := n) (m := m) (f := f) (x1 := x1) (Q := zPq v Q2) (zTR_same e61 hTR) (by rw [e60]; exact hu) (by rw [e61]; exact hSt.2.1) (by omega) hm (fun h2 o6 e2 => ?_) 11 0 (zhr h1 73 (fun k => if k < 62 then h1 61 k else h1 73 k)) none (by omega) hh
        · exact key
        · rw [e61, (pkeq moreB (paV (zTauOf h 10) n f (h 61)) (-1, 0) (0, 0) (by decide) 10 (by omega)).1]
          have ee := hQ v h2 ⟨n, m, N, zRel_rl hRN e1 e2⟩ ((e2.1 _ (by omega) (by omega) (by omega) (by omega)).trans (e1 _ (by omega) (by omega))) ((e2.1 _ (by omega) (by omega) (by omega) (by omega)).trans (e1 _ (by omega) (by omega)))
          simp only [↓r155_0, ↓r155_1, ↓r155_2, ↓r155_3, ↓r155_6, ↓r155_9, ↓r155_12, ↓r155_13, ↓r155_14, ↓r155_15, ↓r155_16, ↓r155_19, ↓r155_22, ↓r155_24, ↓r155_25, ↓r155_26, ↓r155_29, ↓r155_30, ↓r155_31, ↓r155_32, ↓r155_34, ↓r155_35, ↓r155_39, ↓r155_41, ↓r155_44, ↓r155_45, ↓r155_48, ↓r155_50, ↓r155_52, ↓r155_53, ↓r155_54, ↓r155_55, ↓r155_58, ↓r155_59, ↓r155_62, ↓r155_63, ↓r155_64, ↓r155_66, ↓r155_67, ↓r155_70, ↓r155_71, ↓r155_74, ↓r155_76, ↓r155_78, ↓r155_81, ↓r155_83, ↓r155_84, ↓r155_86, ↓r155_88, ↓r155_91, ↓r155_94, ↓r155_95, ↓r155_98, ↓r155_99, ↓r155_102, ↓r155_104]
          by_cases g2 : x1 = 0
          · rw [if_pos g2] at hv ⊢
            exact zPq_in hv ee
          · rw [if_neg g2] at hv ⊢
            exact zPq_in hv ee
      simp only [↓r75_0, ↓r75_1, ↓r75_2, ↓r75_4, ↓r75_7, ↓r75_10, ↓r75_11, ↓r75_12, ↓r75_13, ↓r75_16, ↓r75_19, ↓r75_21, ↓r75_22, ↓r75_23, ↓r75_24, ↓r75_25, ↓r75_27, ↓r75_28, ↓r75_32, ↓r75_34, ↓r75_37, ↓r75_38, ↓r75_41, ↓r75_42, ↓r75_45, ↓r75_48, ↓r75_49, ↓r75_52, ↓r75_55, ↓r75_56, ↓r75_58, ↓r75_59, ↓r75_60, ↓r75_63, ↓r75_64, ↓r75_67, ↓r75_69, ↓r75_72, ↓r75_73, ↓r75_76, ↓r75_79, ↓r75_81, ↓r75_84, ↓r75_86, ↓r75_87, ↓r75_88, ↓r75_91, ↓r75_94, ↓r75_96, ↓r75_99, ↓r75_102, ↓r75_103, ↓r75_106, ↓r75_107, ↓r75_110, ↓r75_112]
      by_cases g2 : x1 = 0
      · rw [if_pos g2]
        exact hr _ (if_pos g2)
      · rw [if_neg g2]
        exact hr _ (if_neg g2)
    · simp (decide := true) only [if_pos g0, if_neg g1, ↓reduceIte]
      refine zPo_in rfl rfl ?_
      rw [m155]
      simp (decide := true) only [↓r155_0, ↓r155_1, ↓r155_2, ↓r155_3, ↓r155_6, ↓r155_9, ↓r155_12, ↓r155_13, ↓r155_14, ↓r155_15, ↓r155_16, ↓r155_19, ↓r155_22, ↓r155_24, ↓r155_25, ↓r155_26, ↓r155_29, ↓r155_30, ↓r155_31, ↓r155_32, ↓r155_34, ↓r155_35, ↓r155_39, ↓r155_41, ↓r155_44, ↓r155_45, ↓r155_48, ↓r155_50, ↓r155_52, ↓r155_53, ↓r155_54, ↓r155_55, ↓r155_58, ↓r155_59, ↓r155_62, ↓r155_63, ↓r155_64, ↓r155_66, ↓r155_67, ↓r155_70, ↓r155_71, ↓r155_74, ↓r155_76, ↓r155_78, ↓r155_81, ↓r155_83, ↓r155_84, ↓r155_86, ↓r155_88, ↓r155_91, ↓r155_95, ↓r155_98, ↓r155_99, ↓r155_102, ↓r155_104, c106, if_pos g0, if_neg g1, ↓reduceIte, Option.toList, List.cons_append, List.nil_append]
      exact zPq_in rfl (hQ _ _ hR0 rfl rfl)
  · simp (decide := true) only [if_neg g0, ↓reduceIte]
    refine zPo_in rfl rfl ?_
    rw [m155]
    simp (decide := true) only [↓r155_0, ↓r155_1, ↓r155_2, ↓r155_3, ↓r155_6, ↓r155_9, ↓r155_12, ↓r155_13, ↓r155_14, ↓r155_15, ↓r155_16, ↓r155_19, ↓r155_22, ↓r155_24, ↓r155_25, ↓r155_26, ↓r155_29, ↓r155_30, ↓r155_31, ↓r155_32, ↓r155_34, ↓r155_35, ↓r155_39, ↓r155_41, ↓r155_44, ↓r155_45, ↓r155_48, ↓r155_50, ↓r155_52, ↓r155_53, ↓r155_54, ↓r155_55, ↓r155_58, ↓r155_59, ↓r155_62, ↓r155_63, ↓r155_64, ↓r155_66, ↓r155_67, ↓r155_70, ↓r155_71, ↓r155_74, ↓r155_76, ↓r155_78, ↓r155_81, ↓r155_83, ↓r155_84, ↓r155_86, ↓r155_88, ↓r155_91, ↓r155_95, ↓r155_98, ↓r155_99, ↓r155_102, ↓r155_104, c106, if_neg g0, ↓reduceIte, Option.toList, List.cons_append, List.nil_append]
    exact zPq_in rfl (hQ _ _ hR0 rfl rfl)
theorem zV_14 (hc : zst c) (hV : zV h c s) : zV (zhr h c (upd (h c) 14 v)) c s := by
  obtain ⟨⟨v0, v1, v2, v3, v4, v5⟩, hr, hl⟩ := hV
  have o : ∀ j, 0 < j → zhr h c (upd (h c) 14 v) (c + j) = h (c + j) := fun j hj => zhr_ne _ _ (by omega)
  unfold zV
  rw [o 1 (by omega), o 2 (by omega), o 3 (by omega), o 4 (by omega), o 5 (by omega), o 6 (by omega), zhr_same, pk_un (by omega), pk_un (by omega), pk_un (by omega), pk_un (by omega), pk_un (by omega), pk_un (by omega)]
  exact ⟨⟨v0, v1, v2, v3, v4, v5⟩, hr, hl⟩
theorem c76_loop {A : Int32} (hV : zV h 10 s) (hT : zTC h 10 τ) (h14 : h 10 14 = -1) (hB : zB s n m) (hf : f ≤ 100) (hm : m ≤ 9999) (hQ : ∀ h1, td h h1 → zR (d + 8) 76 Q 107 [some (.ref 0), some (.int (nI f)), some (.int x1), some (.int (zfo (pkC moreB (leV τ n f s)) n (A, A)).1), some (.int (zfo (pkC moreB (leV τ n f s)) n (A, A)).2), some (.int (nI n))] [] h1) : ∀ (g i : Nat) (h1 : zH), i + g = n → td h h1 → zR (d + 8) 76 Q 32 [some (.ref 0), some (.int (nI f)), some (.int x1), some (.int (zfo (pkC moreB (leV τ n f s)) i (A, A)).1), some (.int (zfo (pkC moreB (leV τ n f s)) i (A, A)).2), some (.int (nI i))] [] h1 := by
  have hn' : h 10 1 = nI n := hV.1.1.trans hB.1.1
  have h10 := hB.1.2
  intro g
  induction g with
  | zero =>
    intro i h1 hi e
    have hi' : i = n := by omega
    have hn1 : h1 10 1 = nI n := by rw [e 10 (by omega) (by omega)]; exact hn'
    subst hi'
    rw [r76_32]
    simp only [↓r76_0, ↓r76_1, ↓r76_2, ↓r76_4, ↓r76_7, ↓r76_10, ↓r76_11, ↓r76_12, ↓r76_13, ↓r76_16, ↓r76_19, ↓r76_21, ↓r76_22, ↓r76_24, ↓r76_25, ↓r76_27, ↓r76_29, ↓r76_30, ↓r76_34, ↓r76_35, ↓r76_38, ↓r76_41, ↓r76_44, ↓r76_45, ↓r76_48, ↓r76_49, ↓r76_52, ↓r76_55, ↓r76_56, ↓r76_59, ↓r76_61, ↓r76_64, ↓r76_65, ↓r76_68, ↓r76_69, ↓r76_72, ↓r76_74, ↓r76_77, ↓r76_78, ↓r76_81, ↓r76_84, ↓r76_86, ↓r76_89, ↓r76_91, ↓r76_92, ↓r76_93, ↓r76_96, ↓r76_99, ↓r76_101, ↓r76_104, ↓r76_108, ↓r76_111, ↓r76_112, ↓r76_115, ↓r76_117, zc_10, zc_18, zc_26, zc_0, zc_1, zc_7, zc_60, Nat.reduceAdd, true_and, hn1, nI_nlt (Nat.le_refl i) (by omega), if_false]
    exact hQ h1 e
  | succ g ih =>
    intro i h1 hi e
    have q : nI i < nI n := nI_lt (by omega) (by omega)
    have hn1 : h1 10 1 = nI n := by rw [e 10 (by omega) (by omega)]; exact hn'
    rw [r76_32]
    simp only [↓r76_0, ↓r76_1, ↓r76_2, ↓r76_4, ↓r76_7, ↓r76_10, ↓r76_11, ↓r76_12, ↓r76_13, ↓r76_16, ↓r76_19, ↓r76_21, ↓r76_22, ↓r76_24, ↓r76_25, ↓r76_27, ↓r76_29, ↓r76_30, ↓r76_34, ↓r76_35, ↓r76_38, ↓r76_41, ↓r76_44, ↓r76_45, ↓r76_48, ↓r76_49, ↓r76_52, ↓r76_55, ↓r76_56, ↓r76_59, ↓r76_61, ↓r76_64, ↓r76_65, ↓r76_68, ↓r76_69, ↓r76_72, ↓r76_74, ↓r76_77, ↓r76_78, ↓r76_81, ↓r76_84, ↓r76_86, ↓r76_89, ↓r76_91, ↓r76_92, ↓r76_93, ↓r76_96, ↓r76_99, ↓r76_101, ↓r76_104, ↓r76_108, ↓r76_111, ↓r76_112, ↓r76_115, ↓r76_117, zc_10, zc_18, zc_26, zc_0, zc_1, zc_7, zc_60, Nat.reduceAdd, true_and, hn1, if_pos q, Option.toList, List.cons_append, List.nil_append]
    refine th_become hV hT h14 (Or.inl rfl) e fun h2 e2 hV2 hT2 h14' => ?_
    simp only [↓r76_0, ↓r76_1, ↓r76_2, ↓r76_4, ↓r76_7, ↓r76_10, ↓r76_11, ↓r76_12, ↓r76_13, ↓r76_16, ↓r76_19, ↓r76_21, ↓r76_22, ↓r76_24, ↓r76_25, ↓r76_27, ↓r76_29, ↓r76_30, ↓r76_34, ↓r76_35, ↓r76_38, ↓r76_41, ↓r76_44, ↓r76_45, ↓r76_48, ↓r76_49, ↓r76_52, ↓r76_55, ↓r76_56, ↓r76_59, ↓r76_61, ↓r76_64, ↓r76_65, ↓r76_68, ↓r76_69, ↓r76_72, ↓r76_74, ↓r76_77, ↓r76_78, ↓r76_81, ↓r76_84, ↓r76_86, ↓r76_89, ↓r76_91, ↓r76_92, ↓r76_93, ↓r76_96, ↓r76_99, ↓r76_101, ↓r76_104, ↓r76_108, ↓r76_111, ↓r76_112, ↓r76_115, ↓r76_117, zc_10, zc_18, zc_26, zc_0, zc_1, zc_7, zc_60, Nat.reduceAdd, true_and, Option.toList, List.cons_append, List.nil_append]
    refine th_go (u := nI i) (zV_14 zst26 hV2) (zTC_o (by rw [zhr_ne _ _ (by omega)]) (by rw [zhr_ne _ _ (by omega)]) (by rw [zhr_ne _ _ (by omega)]) hT2) (by rw [zhr_same, pk_us]) hB (by omega) (td_tr e2 (fun c x y => zhr_ne _ _ (by omega))) fun h4 e4 hV4 hT4 h144 => ?_
    have v9 : h4 26 9 = leV τ n f s i := hV4.1.2.2.2.2.1
    simp only [↓r76_0, ↓r76_1, ↓r76_2, ↓r76_4, ↓r76_7, ↓r76_10, ↓r76_11, ↓r76_12, ↓r76_13, ↓r76_16, ↓r76_19, ↓r76_21, ↓r76_22, ↓r76_24, ↓r76_25, ↓r76_27, ↓r76_29, ↓r76_30, ↓r76_34, ↓r76_35, ↓r76_38, ↓r76_41, ↓r76_44, ↓r76_45, ↓r76_48, ↓r76_49, ↓r76_52, ↓r76_55, ↓r76_56, ↓r76_59, ↓r76_61, ↓r76_64, ↓r76_65, ↓r76_68, ↓r76_69, ↓r76_72, ↓r76_74, ↓r76_77, ↓r76_78, ↓r76_81, ↓r76_84, ↓r76_86, ↓r76_89, ↓r76_91, ↓r76_92, ↓r76_93, ↓r76_96, ↓r76_99, ↓r76_101, ↓r76_104, ↓r76_108, ↓r76_111, ↓r76_112, ↓r76_115, ↓r76_117, zc_10, zc_18, zc_26, zc_0, zc_1, zc_7, zc_60, Nat.reduceAdd, true_and, v9, Option.toList, List.cons_append, List.nil_append, nI_1]
    have ih' := ih (i + 1) h4 (by omega) e4
    have es : zfo (pkC moreB (leV τ n f s)) (i + 1) (A, A) = pkC moreB (leV τ n f s) i (zfo (pkC moreB (leV τ n f s)) i (A, A)) := rfl
    rw [es] at ih'
    generalize zfo (pkC moreB (leV τ n f s)) i (A, A) = p at ih' ⊢
    by_cases g0 : i = 0
    · have g0' : nI i = 0 := by rw [g0, nI_0]
      unfold pkC at ih'
      rw [if_pos (Or.inl g0)] at ih'
      simp only [if_pos g0']
      exact ih'
    · have g0' : ¬ nI i = 0 := by rw [← nI_0, nI_eq (by omega) (by omega)]; exact g0
      simp only [if_neg g0']
      by_cases g1 : leV τ n f s i ≤ p.2
      · unfold pkC at ih'
        rw [if_neg (fun z => z.elim g0 (moreB_f g1))] at ih'
        simp only [if_pos g1]
        exact ih'
      · unfold pkC at ih'
        rw [if_pos (Or.inr (moreB_t g1))] at ih'
        simp only [if_neg g1]
        exact ih'
def rl6 (h h1 : zH) : Prop := (∀ c, c ≠ 60 → c ≠ 61 → c ≠ 73 → c ≠ 75 → c ≠ 76 → h1 c = h c) ∧ h1 61 = h 61 ∧ (∀ k, k < 62 → h1 73 k = h 61 k) ∧ ∃ x, h1 60 = upd (h 60) 12 x
theorem c156_loop (hT : zTR (h 61) τ) (hB : zB (h 61) n m) (hf : f ≤ 100) (hm : m ≤ 9999) (hQ : ∀ h1 o6, rl6 h h1 → zR (d + 8) 156 Q 95 [some (.ref 60), some (.int (nI f)), some (.int x1), some (.int (zfo (pkR moreB (leV τ n f (h 61))) n (-1, 0)).1), some (.int (zfo (pkR moreB (leV τ n f (h 61))) n (-1, 0)).2), some (.int (nI n)), o6] [] h1) : ∀ (g i : Nat) (h1 : zH) (o6 : Option Value), i + g = n → rl6 h h1 → zR (d + 8) 156 Q 37 [some (.ref 60), some (.int (nI f)), some (.int x1), some (.int (zfo (pkR moreB (leV τ n f (h 61))) i (-1, 0)).1), some (.int (zfo (pkR moreB (leV τ n f (h 61))) i (-1, 0)).2), some (.int (nI i)), o6] [] h1 := by
  have hn' := hB.1.1
  have h10 := hB.1.2
  intro g
  induction g with
  | zero =>
    intro i h1 o6 hi e
    have hi' : i = n := by omega
    have hn1 : h1 61 0 = nI n := by rw [e.2.1]; exact hn'
    subst hi'
    rw [r156_37]
    simp only [↓r156_0, ↓r156_1, ↓r156_2, ↓r156_3, ↓r156_6, ↓r156_9, ↓r156_12, ↓r156_13, ↓r156_14, ↓r156_15, ↓r156_16, ↓r156_19, ↓r156_22, ↓r156_24, ↓r156_25, ↓r156_26, ↓r156_29, ↓r156_30, ↓r156_31, ↓r156_32, ↓r156_34, ↓r156_35, ↓r156_39, ↓r156_40, ↓r156_43, ↓r156_44, ↓r156_45, ↓r156_48, ↓r156_49, ↓r156_51, ↓r156_54, ↓r156_55, ↓r156_56, ↓r156_59, ↓r156_60, ↓r156_63, ↓r156_64, ↓r156_65, ↓r156_67, ↓r156_68, ↓r156_71, ↓r156_72, ↓r156_75, ↓r156_77, ↓r156_79, ↓r156_82, ↓r156_84, ↓r156_85, ↓r156_87, ↓r156_89, ↓r156_92, ↓r156_96, ↓r156_97, ↓r156_100, ↓r156_101, ↓r156_104, ↓r156_106, ↓r156_109, ↓r156_110, ↓r156_113, ↓r156_114, ↓r156_117, ↓r156_119, zl_61, zok0, zix0, true_and, hn1, nI_nlt (Nat.le_refl i) (by omega), if_false]
    exact hQ h1 o6 e
  | succ g ih =>
    intro i h1 o6 hi e
    have q : nI i < nI n := nI_lt (by omega) (by omega)
    have hn1 : h1 61 0 = nI n := by rw [e.2.1]; exact hn'
    rw [r156_37]
    simp only [↓r156_0, ↓r156_1, ↓r156_2, ↓r156_3, ↓r156_6, ↓r156_9, ↓r156_12, ↓r156_13, ↓r156_14, ↓r156_15, ↓r156_16, ↓r156_19, ↓r156_22, ↓r156_24, ↓r156_25, ↓r156_26, ↓r156_29, ↓r156_30, ↓r156_31, ↓r156_32, ↓r156_34, ↓r156_35, ↓r156_39, ↓r156_40, ↓r156_43, ↓r156_44, ↓r156_45, ↓r156_48, ↓r156_49, ↓r156_51, ↓r156_54, ↓r156_55, ↓r156_56, ↓r156_59, ↓r156_60, ↓r156_63, ↓r156_64, ↓r156_65, ↓r156_67, ↓r156_68, ↓r156_71, ↓r156_72, ↓r156_75, ↓r156_77, ↓r156_79, ↓r156_82, ↓r156_84, ↓r156_85, ↓r156_87, ↓r156_89, ↓r156_92, ↓r156_96, ↓r156_97, ↓r156_100, ↓r156_101, ↓r156_104, ↓r156_106, ↓r156_109, ↓r156_110, ↓r156_113, ↓r156_114, ↓r156_117, ↓r156_119, zl_61, zok0, zix0, true_and, hn1, if_pos q, Option.toList, List.cons_append, List.nil_append]
    refine c152 (n := n) (m := m) (τ := τ) ?_ ?_ (by omega) fun h3 e3 e3b => ?_
    · rw [zhr_ne _ _ (by omega), e.2.1]; exact hB
    · rw [zhr_ne _ _ (by omega), e.2.1]; exact hT
    · rw [zhr_same, pk_us, zhr_ne _ _ (by omega : 61 ≠ 60), e.2.1] at e3b
      have ev : h3 61 4 = leV τ n f (h 61) i := by rw [e3b]; rfl
      simp only [↓r156_0, ↓r156_1, ↓r156_2, ↓r156_3, ↓r156_6, ↓r156_9, ↓r156_12, ↓r156_13, ↓r156_14, ↓r156_15, ↓r156_16, ↓r156_19, ↓r156_22, ↓r156_24, ↓r156_25, ↓r156_26, ↓r156_29, ↓r156_30, ↓r156_31, ↓r156_32, ↓r156_34, ↓r156_35, ↓r156_39, ↓r156_40, ↓r156_43, ↓r156_44, ↓r156_45, ↓r156_48, ↓r156_49, ↓r156_51, ↓r156_54, ↓r156_55, ↓r156_56, ↓r156_59, ↓r156_60, ↓r156_63, ↓r156_64, ↓r156_65, ↓r156_67, ↓r156_68, ↓r156_71, ↓r156_72, ↓r156_75, ↓r156_77, ↓r156_79, ↓r156_82, ↓r156_84, ↓r156_85, ↓r156_87, ↓r156_89, ↓r156_92, ↓r156_96, ↓r156_97, ↓r156_100, ↓r156_101, ↓r156_104, ↓r156_106, ↓r156_109, ↓r156_110, ↓r156_113, ↓r156_114, ↓r156_117, ↓r156_119, zl_61, zok6, zix6, ev, true_and, Option.toList, List.cons_append, List.nil_append]
      have e73 : h3 73 = h1 73 := (e3 73 (by omega) (by omega) (by omega)).trans (zhr_ne _ _ (by omega))
      refine c151 ?_
      simp only [↓r156_0, ↓r156_1, ↓r156_2, ↓r156_3, ↓r156_6, ↓r156_9, ↓r156_12, ↓r156_13, ↓r156_14, ↓r156_15, ↓r156_16, ↓r156_19, ↓r156_22, ↓r156_24, ↓r156_25, ↓r156_26, ↓r156_29, ↓r156_30, ↓r156_31, ↓r156_32, ↓r156_34, ↓r156_35, ↓r156_39, ↓r156_40, ↓r156_43, ↓r156_44, ↓r156_45, ↓r156_48, ↓r156_49, ↓r156_51, ↓r156_54, ↓r156_55, ↓r156_56, ↓r156_59, ↓r156_60, ↓r156_63, ↓r156_64, ↓r156_65, ↓r156_67, ↓r156_68, ↓r156_71, ↓r156_72, ↓r156_75, ↓r156_77, ↓r156_79, ↓r156_82, ↓r156_84, ↓r156_85, ↓r156_87, ↓r156_89, ↓r156_92, ↓r156_96, ↓r156_97, ↓r156_100, ↓r156_101, ↓r156_104, ↓r156_106, ↓r156_109, ↓r156_110, ↓r156_113, ↓r156_114, ↓r156_117, ↓r156_119, Option.toList, List.cons_append, List.nil_append, nI_1]
      have e4 : rl6 h (zhr h3 61 (fun k => if k < 62 then h3 73 k else h3 61 k)) := by
        refine ⟨fun c y x y' z w => ?_, ?_, fun k hk => ?_, nI i, ?_⟩
        · rw [zhr_ne _ _ x, e3 c x z w, zhr_ne _ _ y]
          exact e.1 c y x y' z w
        · rw [zhr_same]
          exact lay_eq (fun k hk => by rw [e3b, stepN_keep h10 (by omega)]) (h3 73) (fun k hk => by rw [e73]; exact e.2.2.1 k hk)
        · rw [zhr_ne _ _ (by omega), e73]
          exact e.2.2.1 k hk
        · rw [zhr_ne _ _ (by omega), e3 60 (by omega) (by omega) (by omega), zhr_same]
          obtain ⟨x, ex⟩ := e.2.2.2
          rw [ex, upd_upd]
      have ih' := ih (i + 1) _ (some (.int (leV τ n f (h 61) i))) (by omega) e4
      have es : zfo (pkR moreB (leV τ n f (h 61))) (i + 1) (-1, 0) = pkR moreB (leV τ n f (h 61)) i (zfo (pkR moreB (leV τ n f (h 61))) i (-1, 0)) := rfl
      rw [es] at ih'
      generalize zfo (pkR moreB (leV τ n f (h 61))) i (-1, 0) = p at ih' ⊢
      by_cases g0 : p.1 < 0
      · unfold pkR at ih'
        rw [if_pos (Or.inl g0)] at ih'
        simp only [if_pos g0]
        exact ih'
      · simp only [if_neg g0]
        by_cases g1 : leV τ n f (h 61) i ≤ p.2
        · unfold pkR at ih'
          rw [if_neg (fun z => z.elim g0 (moreB_f g1))] at ih'
          simp only [if_pos g1]
          exact ih'
        · unfold pkR at ih'
          rw [if_pos (Or.inr (moreB_t g1))] at ih'
          simp only [if_neg g1]
          exact ih'
theorem p_left : zPair (d + 20) (d + 20) 76 156 [.int x0, .int x1] := by
  intro h Q2 hR hQ
  have hR0 := hR
  obtain ⟨n, m, N, hRN⟩ := hR
  obtain ⟨⟨hSt, hm⟩, hu, -⟩ := id hRN
  obtain ⟨⟨hn, h10⟩, -⟩ := hSt.2.1
  obtain ⟨hTC, hTR⟩ := zSt_tau hSt
  rw [m76]
  simp only [↓r76_0, ↓r76_1, ↓r76_2, ↓r76_4, ↓r76_7, ↓r76_10, ↓r76_11, ↓r76_12, ↓r76_13, ↓r76_16, ↓r76_19, ↓r76_21, ↓r76_22, ↓r76_24, ↓r76_25, ↓r76_27, ↓r76_29, ↓r76_30, ↓r76_34, ↓r76_35, ↓r76_38, ↓r76_41, ↓r76_44, ↓r76_45, ↓r76_48, ↓r76_49, ↓r76_52, ↓r76_55, ↓r76_56, ↓r76_59, ↓r76_61, ↓r76_64, ↓r76_65, ↓r76_68, ↓r76_69, ↓r76_72, ↓r76_74, ↓r76_77, ↓r76_78, ↓r76_81, ↓r76_84, ↓r76_86, ↓r76_89, ↓r76_91, ↓r76_92, ↓r76_93, ↓r76_96, ↓r76_99, ↓r76_101, ↓r76_104, ↓r76_108, ↓r76_111, ↓r76_112, ↓r76_115, ↓r76_117, zc_10, zc_18, zc_26, zc_0, zc_1, zc_7, zc_60, Nat.reduceAdd, true_and, c103, Option.toList, List.cons_append, List.nil_append]
  by_cases g0 : 1 ≤ x0 ∧ x0 ≤ 60
  · by_cases g1 : 0 ≤ x1 ∧ x1 ≤ 1
    · simp (decide := true) only [if_pos g0, if_pos g1, ↓reduceIte]
      obtain ⟨f, hf, rfl⟩ := nI_of2 (M := 60) (n := 60) (by decide) (by have := g0.1; grind) g0.2
      refine c76_loop (d := d + 11) (n := n) (m := m) (A := -1000000005) hSt.1 hTC hSt.2.2.2.2.2 hSt.2.1 (by omega) hm (fun h1 e1 => ?_) n 0 h (by omega) td_rf
      have e61 : h1 61 = h 61 := e1 _ (by omega) (by omega)
      have e60 : h1 60 = h 60 := e1 _ (by omega) (by omega)
      have hr : ∀ v, ((if x1 = 0 then (zfo (pkC moreB (leV (zTauOf h 10) n f (h 61))) n (-1000000005, -1000000005)).1 else (zfo (pkC moreB (leV (zTauOf h 10) n f (h 61))) n (-1000000005, -1000000005)).2) = v) → zPo h (d + 20) 156 [.int (nI f), .int x1] Q2 (some (.int v)) h1 := by
        intro v hv
        refine zPo_in (e1 _ (by omega) (by omega)) (e1 _ (by omega) (by omega)) ?_
        rw [m156]
        simp (decide := true) only [↓r156_0, ↓r156_1, ↓r156_2, ↓r156_3, ↓r156_6, ↓r156_9, ↓r156_12, ↓r156_13, ↓r156_14, ↓r156_15, ↓r156_16, ↓r156_19, ↓r156_22, ↓r156_24, ↓r156_25, ↓r156_26, ↓r156_29, ↓r156_30, ↓r156_31, ↓r156_32, ↓r156_34, ↓r156_35, ↓r156_39, ↓r156_40, ↓r156_43, ↓r156_44, ↓r156_45, ↓r156_48, ↓r156_49, ↓r156_51, ↓r156_54, ↓r156_55, ↓r156_56, ↓r156_59, ↓r156_60, ↓r156_63, ↓r156_64, ↓r156_65, ↓r156_67, ↓r156_68, ↓r156_71, ↓r156_72, ↓r156_75, ↓r156_77, ↓r156_79, ↓r156_82, ↓r156_84, ↓r156_85, ↓r156_87, ↓r156_89, ↓r156_92, ↓r156_96, ↓r156_97, ↓r156_100, ↓r156_101, ↓r156_104, ↓r156_106, ↓r156_109, ↓r156_110, ↓r156_113, ↓r156_114, ↓r156_117, ↓r156_119, c106, if_pos g0, if_pos g1, ↓reduceIte, Option.toList, List.cons_append, List.nil_append]
        refine c150 ?_
        simp only [↓r156_0, ↓r156_1, ↓r156_2, ↓r156_3, ↓r156_6, ↓r156_9, ↓r156_12, ↓r156_13, ↓r156_14, ↓r156_15, ↓r156_16, ↓r156_19, ↓r156_22, ↓r156_24, ↓r156_25, ↓r156_26, ↓r156_29, ↓r156_30, ↓r156_31, ↓r156_32, ↓r156_34, ↓r156_35, ↓r156_39, ↓r156_40, ↓r156_43, ↓r156_44, ↓r156_45, ↓r156_48, ↓r156_49, ↓r156_51, ↓r156_54, ↓r156_55, ↓r156_56, ↓r156_59, ↓r156_60, ↓r156_63, ↓r156_64, ↓r156_65, ↓r156_67, ↓r156_68, ↓r156_71, ↓r156_72, ↓r156_75, ↓r156_77, ↓r156_79, ↓r156_82, ↓r156_84, ↓r156_85, ↓r156_87, ↓r156_89, ↓r156_92, ↓r156_96, ↓r156_97, ↓r156_100, ↓r156_101, ↓r156_104, ↓r156_106, ↓r156_109, ↓r156_110, ↓r156_113, ↓r156_114, ↓r156_117, ↓r156_119, Option.toList, List.cons_append, List.nil_append]
        have hh : rl6 h1 (zhr h1 73 (fun k => if k < 62 then h1 61 k else h1 73 k)) :=
          ⟨fun c y x y' z w => zhr_ne _ _ y', zhr_ne _ _ (by omega), fun k hk => by rw [zhr_same]; exact if_pos hk, h1 60 12, by rw [upd_self]; exact zhr_ne _ _ (by omega)⟩
        have key := c156_loop (d := d + 11) (h := h1) (τ := zTauOf h 10) (n := n) (m := m) (f := f) (x1 := x1) (Q := zPq v Q2) (zTR_same e61 hTR) (by rw [e61]; exact hSt.2.1) (by omega) hm (fun h2 o6 e2 => ?_) n 0 (zhr h1 73 (fun k => if k < 62 then h1 61 k else h1 73 k)) none (by omega) hh
        · exact key
        · have o : ∀ c, c ≠ 61 → c ≠ 73 → c ≠ 75 → c ≠ 76 → zhr h2 60 (upd (h2 60) 12 (-1)) c = h1 c := by
            intro c a1 a2 a3 a4
            rw [zhr_ap]
            by_cases g : c = 60
            · rw [if_pos g, g]
              obtain ⟨x, ex⟩ := e2.2.2.2
              have : upd (h1 60) 12 (-1) = h1 60 := by
                have h12 : h1 60 12 = -1 := by rw [e60]; exact hu
                rw [← h12, upd_self]
              rw [ex, upd_upd, this]
            · rw [if_neg g]
              exact e2.1 c g a1 a2 a3 a4
          have ee := hQ v (zhr h2 60 (upd (h2 60) 12 (-1))) ⟨n, m, N, zRel_th hRN (fun c a1 a2 a3 a4 a5 _ => by
            by_cases g : c = 61
            · subst g
              rw [zhr_ne _ _ (by omega), e2.2.1]; exact e61
            · exact (o c g a3 a4 a5).trans (e1 c a1 a2))⟩ ((o _ (by omega) (by omega) (by omega) (by omega)).trans (e1 _ (by omega) (by omega))) ((o _ (by omega) (by omega) (by omega) (by omega)).trans (e1 _ (by omega) (by omega)))
          simp only [↓r156_0, ↓r156_1, ↓r156_2, ↓r156_3, ↓r156_6, ↓r156_9, ↓r156_12, ↓r156_13, ↓r156_14, ↓r156_15, ↓r156_16, ↓r156_19, ↓r156_22, ↓r156_24, ↓r156_25, ↓r156_26, ↓r156_29, ↓r156_30, ↓r156_31, ↓r156_32, ↓r156_34, ↓r156_35, ↓r156_39, ↓r156_40, ↓r156_43, ↓r156_44, ↓r156_45, ↓r156_48, ↓r156_49, ↓r156_51, ↓r156_54, ↓r156_55, ↓r156_56, ↓r156_59, ↓r156_60, ↓r156_63, ↓r156_64, ↓r156_65, ↓r156_67, ↓r156_68, ↓r156_71, ↓r156_72, ↓r156_75, ↓r156_77, ↓r156_79, ↓r156_82, ↓r156_84, ↓r156_85, ↓r156_87, ↓r156_89, ↓r156_92, ↓r156_95, ↓r156_96, ↓r156_97, ↓r156_100, ↓r156_101, ↓r156_104, ↓r156_106, ↓r156_109, ↓r156_110, ↓r156_113, ↓r156_114, ↓r156_117, ↓r156_119]
          rw [e61]
          by_cases gn : n = 0
          · subst gn
            have q1 : (zfo (pkR moreB (leV (zTauOf h 10) 0 f (h 61))) 0 (-1, 0)).1 < 0 := by show (-1 : Int32) < 0; decide
            rw [if_pos q1]
            have hv' : (-1000000005 : Int32) = v := by
              by_cases g2 : x1 = 0
              · rw [if_pos g2] at hv; exact hv
              · rw [if_neg g2] at hv; exact hv
            exact zPq_in hv' ee
          · obtain ⟨k, rfl⟩ : ∃ k, n = k + 1 := ⟨n - 1, by omega⟩
            obtain ⟨q1, q2⟩ := pkeq moreB (leV (zTauOf h 10) (k + 1) f (h 61)) (-1, 0) (-1000000005, -1000000005) (by decide) k (by omega)
            rw [q1]
            rw [if_neg q2]
            by_cases g2 : x1 = 0
            · rw [if_pos g2] at hv ⊢
              exact zPq_in hv ee
            · rw [if_neg g2] at hv ⊢
              exact zPq_in hv ee
      simp only [↓r76_0, ↓r76_1, ↓r76_2, ↓r76_4, ↓r76_7, ↓r76_10, ↓r76_11, ↓r76_12, ↓r76_13, ↓r76_16, ↓r76_19, ↓r76_21, ↓r76_22, ↓r76_24, ↓r76_25, ↓r76_27, ↓r76_29, ↓r76_30, ↓r76_34, ↓r76_35, ↓r76_38, ↓r76_41, ↓r76_44, ↓r76_45, ↓r76_48, ↓r76_49, ↓r76_52, ↓r76_55, ↓r76_56, ↓r76_59, ↓r76_61, ↓r76_64, ↓r76_65, ↓r76_68, ↓r76_69, ↓r76_72, ↓r76_74, ↓r76_77, ↓r76_78, ↓r76_81, ↓r76_84, ↓r76_86, ↓r76_89, ↓r76_91, ↓r76_92, ↓r76_93, ↓r76_96, ↓r76_99, ↓r76_101, ↓r76_104, ↓r76_107, ↓r76_108, ↓r76_111, ↓r76_112, ↓r76_115, ↓r76_117]
      by_cases g2 : x1 = 0
      · rw [if_pos g2]
        exact hr _ (if_pos g2)
      · rw [if_neg g2]
        exact hr _ (if_neg g2)
    · simp (decide := true) only [if_pos g0, if_neg g1, ↓reduceIte]
      refine zPo_in rfl rfl ?_
      rw [m156]
      simp (decide := true) only [↓r156_0, ↓r156_1, ↓r156_2, ↓r156_3, ↓r156_6, ↓r156_9, ↓r156_12, ↓r156_13, ↓r156_14, ↓r156_15, ↓r156_16, ↓r156_19, ↓r156_22, ↓r156_24, ↓r156_25, ↓r156_26, ↓r156_29, ↓r156_30, ↓r156_31, ↓r156_32, ↓r156_34, ↓r156_35, ↓r156_39, ↓r156_40, ↓r156_43, ↓r156_44, ↓r156_45, ↓r156_48, ↓r156_49, ↓r156_51, ↓r156_54, ↓r156_55, ↓r156_56, ↓r156_59, ↓r156_60, ↓r156_63, ↓r156_64, ↓r156_65, ↓r156_67, ↓r156_68, ↓r156_71, ↓r156_72, ↓r156_75, ↓r156_77, ↓r156_79, ↓r156_82, ↓r156_84, ↓r156_85, ↓r156_87, ↓r156_89, ↓r156_92, ↓r156_96, ↓r156_97, ↓r156_100, ↓r156_101, ↓r156_104, ↓r156_106, ↓r156_109, ↓r156_110, ↓r156_113, ↓r156_114, ↓r156_117, ↓r156_119, c106, if_pos g0, if_neg g1, ↓reduceIte, Option.toList, List.cons_append, List.nil_append]
      exact zPq_in rfl (hQ _ _ hR0 rfl rfl)
  · simp (decide := true) only [if_neg g0, ↓reduceIte]
    refine zPo_in rfl rfl ?_
    rw [m156]
    simp (decide := true) only [↓r156_0, ↓r156_1, ↓r156_2, ↓r156_3, ↓r156_6, ↓r156_9, ↓r156_12, ↓r156_13, ↓r156_14, ↓r156_15, ↓r156_16, ↓r156_19, ↓r156_22, ↓r156_24, ↓r156_25, ↓r156_26, ↓r156_29, ↓r156_30, ↓r156_31, ↓r156_32, ↓r156_34, ↓r156_35, ↓r156_39, ↓r156_40, ↓r156_43, ↓r156_44, ↓r156_45, ↓r156_48, ↓r156_49, ↓r156_51, ↓r156_54, ↓r156_55, ↓r156_56, ↓r156_59, ↓r156_60, ↓r156_63, ↓r156_64, ↓r156_65, ↓r156_67, ↓r156_68, ↓r156_71, ↓r156_72, ↓r156_75, ↓r156_77, ↓r156_79, ↓r156_82, ↓r156_84, ↓r156_85, ↓r156_87, ↓r156_89, ↓r156_92, ↓r156_96, ↓r156_97, ↓r156_100, ↓r156_101, ↓r156_104, ↓r156_106, ↓r156_109, ↓r156_110, ↓r156_113, ↓r156_114, ↓r156_117, ↓r156_119, c106, if_neg g0, ↓reduceIte, Option.toList, List.cons_append, List.nil_append]
    exact zPq_in rfl (hQ _ _ hR0 rfl rfl)
end
