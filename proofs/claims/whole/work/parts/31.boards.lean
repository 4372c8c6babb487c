section
variable {d : Nat} {Q : Option Value → zH → Prop} {h : zH} {x x0 x1 x2 x3 x4 : Int32} {c n k : Nat} {τ : zTau} {s : Nat → Int32}
theorem sc_at {h h' : zH} (hc : zst c) (e : sc h h') : h' c = h c ∧ ∀ j, h' (c + j) = h (c + j) := by
  refine ⟨e _ (by rcases hc with rfl | rfl | rfl <;> omega), fun j => e _ (by rcases hc with rfl | rfl | rfl <;> omega)⟩
theorem c48_loop (hc : zst c) (hV : zV h c s) (hn : s 0 = nI n) (h10 : n ≤ 10) (hT : zTC h c τ) : ∀ (f i : Nat) (h' : zH) (asked aboard room weight : Int32) (o6 o7 : Option Value), i + f = n → sc h h' → (∀ h'', sc h h'' → Q (some (.int (sLoads (fun w => pPull (τ 1) (s 9) w (s 7)) s (h c 14) n f asked aboard room weight))) h'') → zR (d + 3) 48 Q 17 [some (.ref c), some (.int asked), some (.int aboard), some (.int room), some (.int weight), some (.int (nI i)), o6, o7] [] h' := by
  have e3 : zok 3 6 = True ∧ zok 4 6 = True ∧ zok 2 6 = True := by unfold zok; decide
  have w3 : zix 3 = 3 ∧ zix 4 = 4 ∧ zix 2 = 2 := by decide
  obtain ⟨e3, e4, e2⟩ := e3
  obtain ⟨w3, w4, w2⟩ := w3
  obtain ⟨⟨v0, v1, v2, v3, v4, v5⟩, ⟨u0, u1, u2, u3, u4, u5⟩, hl⟩ := id hV
  intro f
  induction f with
  | zero =>
    intro i h' asked aboard room weight o6 o7 hi hsc hQ
    obtain ⟨a0, a1⟩ := sc_at hc hsc
    have hin : i = n := by omega
    subst hin
    rw [r48_17]
    simp only [↓r48_0, ↓r48_1, ↓r48_2, ↓r48_3, ↓r48_4, ↓r48_5, ↓r48_8, ↓r48_9, ↓r48_10, ↓r48_11, ↓r48_12, ↓r48_14, ↓r48_15, ↓r48_19, ↓r48_20, ↓r48_23, ↓r48_26, ↓r48_27, ↓r48_28, ↓r48_31, ↓r48_33, ↓r48_35, ↓r48_38, ↓r48_39, ↓r48_40, ↓r48_41, ↓r48_42, ↓r48_44, ↓r48_45, ↓r48_46, ↓r48_47, ↓r48_48, ↓r48_51, ↓r48_53, ↓r48_54, ↓r48_57, ↓r48_59, ↓r48_61, ↓r48_62, ↓r48_65, ↓r48_66, ↓r48_67, ↓r48_70, ↓r48_71, ↓r48_72, ↓r48_74, ↓r48_75, ↓r48_78, ↓r48_80, ↓r48_81, ↓r48_82, ↓r48_85, ↓r48_86, ↓r48_89, ↓r48_90, ↓r48_91, ↓r48_94, ↓r48_95, ↓r48_96, ↓r48_98, ↓r48_99, ↓r48_100, ↓r48_101, ↓r48_102, ↓r48_104, ↓r48_105, ↓r48_106, ↓r48_108, ↓r48_109, ↓r48_112, ↓r48_114, ↓r48_115, ↓r48_116, ↓r48_118, ↓r48_121, ↓r48_124, ↓r48_125, zl_s1 hc, zs_s1 hc, zn_s1 hc, zl_s2 hc, zs_s2 hc, zn_s2 hc, zl_s3 hc, zs_s3 hc, zn_s3 hc, zl_s4 hc, zs_s4 hc, zn_s4 hc, zl_s5 hc, zs_s5 hc, zn_s5 hc, zl_s6 hc, zs_s6 hc, zn_s6 hc, zl_s7 hc, zs_s7 hc, zn_s7 hc, zc_s hc, true_and, a0, v0, hn, nI_nlt (Nat.le_refl i) (by omega), if_false]
    exact hQ h' hsc
  | succ f ih =>
    intro i h' asked aboard room weight o6 o7 hi hsc hQ
    obtain ⟨a0, a1⟩ := sc_at hc hsc
    have c49' := fun (z : Int32) (Q' : Option Value → zH → Prop) => c49 (d := d + 1) (Q := Q') (h := h') (x0 := z) hc (zV_sc hc hsc hV) hn h10
    rw [r48_17]
    simp only [↓r48_0, ↓r48_1, ↓r48_2, ↓r48_3, ↓r48_4, ↓r48_5, ↓r48_8, ↓r48_9, ↓r48_10, ↓r48_11, ↓r48_12, ↓r48_14, ↓r48_15, ↓r48_19, ↓r48_20, ↓r48_23, ↓r48_26, ↓r48_27, ↓r48_28, ↓r48_31, ↓r48_33, ↓r48_35, ↓r48_38, ↓r48_39, ↓r48_40, ↓r48_41, ↓r48_42, ↓r48_44, ↓r48_45, ↓r48_46, ↓r48_47, ↓r48_48, ↓r48_51, ↓r48_53, ↓r48_54, ↓r48_57, ↓r48_59, ↓r48_61, ↓r48_62, ↓r48_65, ↓r48_66, ↓r48_67, ↓r48_70, ↓r48_71, ↓r48_72, ↓r48_74, ↓r48_75, ↓r48_78, ↓r48_80, ↓r48_81, ↓r48_82, ↓r48_85, ↓r48_86, ↓r48_89, ↓r48_90, ↓r48_91, ↓r48_94, ↓r48_95, ↓r48_96, ↓r48_98, ↓r48_99, ↓r48_100, ↓r48_101, ↓r48_102, ↓r48_104, ↓r48_105, ↓r48_106, ↓r48_108, ↓r48_109, ↓r48_112, ↓r48_114, ↓r48_115, ↓r48_116, ↓r48_118, ↓r48_121, ↓r48_124, ↓r48_125, zl_s1 hc, zs_s1 hc, zn_s1 hc, zl_s2 hc, zs_s2 hc, zn_s2 hc, zl_s3 hc, zs_s3 hc, zn_s3 hc, zl_s4 hc, zs_s4 hc, zn_s4 hc, zl_s5 hc, zs_s5 hc, zn_s5 hc, zl_s6 hc, zs_s6 hc, zn_s6 hc, zl_s7 hc, zs_s7 hc, zn_s7 hc, zc_s hc, true_and, a0, v0, hn, nI_lt (by omega : i < n) (by omega : n < 2 ^ 31), if_true, c49', Option.toList, List.cons_append, List.nil_append]
    rcases sNext_in s (h c 14) asked n with ⟨e, -⟩ | ⟨j, hj, e, hm⟩
    · unfold sLoads at hQ
      rw [e]
      rw [e, if_pos (by decide)] at hQ
      rw [if_pos (by decide)]
      exact hQ h' hsc
    · have hneg : ¬ nI j < 0 := nI_pos (by omega)
      have hzj : zix (nI j) = j := zix_nI (by omega)
      obtain ⟨l0, l1, l2, l3, l4⟩ := hl j (by omega)
      unfold sLoads at hQ
      simp only [e, if_neg hneg, hzj] at hQ
      simp only [e, if_neg hneg, ↓r48_0, ↓r48_1, ↓r48_2, ↓r48_3, ↓r48_4, ↓r48_5, ↓r48_8, ↓r48_9, ↓r48_10, ↓r48_11, ↓r48_12, ↓r48_14, ↓r48_15, ↓r48_19, ↓r48_20, ↓r48_23, ↓r48_26, ↓r48_27, ↓r48_28, ↓r48_31, ↓r48_33, ↓r48_35, ↓r48_38, ↓r48_39, ↓r48_40, ↓r48_41, ↓r48_42, ↓r48_44, ↓r48_45, ↓r48_46, ↓r48_47, ↓r48_48, ↓r48_51, ↓r48_53, ↓r48_54, ↓r48_57, ↓r48_59, ↓r48_61, ↓r48_62, ↓r48_65, ↓r48_66, ↓r48_67, ↓r48_70, ↓r48_71, ↓r48_72, ↓r48_74, ↓r48_75, ↓r48_78, ↓r48_80, ↓r48_81, ↓r48_82, ↓r48_85, ↓r48_86, ↓r48_89, ↓r48_90, ↓r48_91, ↓r48_94, ↓r48_95, ↓r48_96, ↓r48_98, ↓r48_99, ↓r48_100, ↓r48_101, ↓r48_102, ↓r48_104, ↓r48_105, ↓r48_106, ↓r48_108, ↓r48_109, ↓r48_112, ↓r48_114, ↓r48_115, ↓r48_116, ↓r48_118, ↓r48_121, ↓r48_124, ↓r48_125, zl_s1 hc, zs_s1 hc, zn_s1 hc, zl_s2 hc, zs_s2 hc, zn_s2 hc, zl_s3 hc, zs_s3 hc, zn_s3 hc, zl_s4 hc, zs_s4 hc, zn_s4 hc, zl_s5 hc, zs_s5 hc, zn_s5 hc, zl_s6 hc, zs_s6 hc, zn_s6 hc, zl_s7 hc, zs_s7 hc, zn_s7 hc, zc_s hc, true_and, a1, l0, l1, u3, e3, w3, zok_nI (by omega : j < 10) (by omega), hzj, c3, Option.toList, List.cons_append, List.nil_append]
      by_cases g1 : kTakes (s (12 + 5 * j + 0)) ≤ room
      · simp only [if_pos g1] at hQ ⊢
        refine d45 hc (zTC_sc hc hsc hT) (fun h2 hsc2 => ?_)
        obtain ⟨b0, b1⟩ := sc_at hc (sc_tr hsc hsc2)
        simp only [↓r48_0, ↓r48_1, ↓r48_2, ↓r48_3, ↓r48_4, ↓r48_5, ↓r48_8, ↓r48_9, ↓r48_10, ↓r48_11, ↓r48_12, ↓r48_14, ↓r48_15, ↓r48_19, ↓r48_20, ↓r48_23, ↓r48_26, ↓r48_27, ↓r48_28, ↓r48_31, ↓r48_33, ↓r48_35, ↓r48_38, ↓r48_39, ↓r48_40, ↓r48_41, ↓r48_42, ↓r48_44, ↓r48_45, ↓r48_46, ↓r48_47, ↓r48_48, ↓r48_51, ↓r48_53, ↓r48_54, ↓r48_57, ↓r48_59, ↓r48_61, ↓r48_62, ↓r48_65, ↓r48_66, ↓r48_67, ↓r48_70, ↓r48_71, ↓r48_72, ↓r48_74, ↓r48_75, ↓r48_78, ↓r48_80, ↓r48_81, ↓r48_82, ↓r48_85, ↓r48_86, ↓r48_89, ↓r48_90, ↓r48_91, ↓r48_94, ↓r48_95, ↓r48_96, ↓r48_98, ↓r48_99, ↓r48_100, ↓r48_101, ↓r48_102, ↓r48_104, ↓r48_105, ↓r48_106, ↓r48_108, ↓r48_109, ↓r48_112, ↓r48_114, ↓r48_115, ↓r48_116, ↓r48_118, ↓r48_121, ↓r48_124, ↓r48_125, zl_s1 hc, zs_s1 hc, zn_s1 hc, zl_s2 hc, zs_s2 hc, zn_s2 hc, zl_s3 hc, zs_s3 hc, zn_s3 hc, zl_s4 hc, zs_s4 hc, zn_s4 hc, zl_s5 hc, zs_s5 hc, zn_s5 hc, zl_s6 hc, zs_s6 hc, zn_s6 hc, zl_s7 hc, zs_s7 hc, zn_s7 hc, zc_s hc, true_and, a1, b0, b1, l0, l1, u1, u3, u4, e4, w4, zok_nI (by omega : j < 10) (by omega), hzj, nI_1, Option.toList, List.cons_append, List.nil_append]
        by_cases g2 : pPull (τ 1) (s 9) (weight + s (12 + 5 * j + 1)) (s 7) ≤ s 10
        · simp only [if_pos g2] at hQ ⊢
          exact ih (i + 1) h2 _ _ _ _ _ _ (by omega) (sc_tr hsc hsc2) hQ
        · simp only [if_neg g2] at hQ ⊢
          exact ih (i + 1) h2 _ _ _ _ _ _ (by omega) (sc_tr hsc hsc2) hQ
      · simp only [if_neg g1, nI_1] at hQ ⊢
        exact ih (i + 1) h' _ _ _ _ _ _ (by omega) hsc hQ
theorem c48 (hc : zst c) (hV : zV h c s) (hn : s 0 = nI n) (h10 : n ≤ 10) (hT : zTC h c τ) (hQ : ∀ h', sc h h' → Q (some (.int (sLoad τ s (h c 14) n))) h') : zM (d + 4) 48 [.ref c] h Q := by
  obtain ⟨⟨v0, v1, v2, v3, v4, v5⟩, ⟨u0, u1, u2, u3, u4, u5⟩, hl⟩ := id hV
  have e2 : zok 2 6 = True := by unfold zok; decide
  rw [m48]
  simp only [↓r48_0, ↓r48_1, ↓r48_2, ↓r48_3, ↓r48_4, ↓r48_5, ↓r48_8, ↓r48_9, ↓r48_10, ↓r48_11, ↓r48_12, ↓r48_14, ↓r48_15, ↓r48_19, ↓r48_20, ↓r48_23, ↓r48_26, ↓r48_27, ↓r48_28, ↓r48_31, ↓r48_33, ↓r48_35, ↓r48_38, ↓r48_39, ↓r48_40, ↓r48_41, ↓r48_42, ↓r48_44, ↓r48_45, ↓r48_46, ↓r48_47, ↓r48_48, ↓r48_51, ↓r48_53, ↓r48_54, ↓r48_57, ↓r48_59, ↓r48_61, ↓r48_62, ↓r48_65, ↓r48_66, ↓r48_67, ↓r48_70, ↓r48_71, ↓r48_72, ↓r48_74, ↓r48_75, ↓r48_78, ↓r48_80, ↓r48_81, ↓r48_82, ↓r48_85, ↓r48_86, ↓r48_89, ↓r48_90, ↓r48_91, ↓r48_94, ↓r48_95, ↓r48_96, ↓r48_98, ↓r48_99, ↓r48_100, ↓r48_101, ↓r48_102, ↓r48_104, ↓r48_105, ↓r48_106, ↓r48_108, ↓r48_109, ↓r48_112, ↓r48_114, ↓r48_115, ↓r48_116, ↓r48_118, ↓r48_121, ↓r48_124, ↓r48_125, zl_s1 hc, zs_s1 hc, zn_s1 hc, zl_s2 hc, zs_s2 hc, zn_s2 hc, zl_s3 hc, zs_s3 hc, zn_s3 hc, zl_s4 hc, zs_s4 hc, zn_s4 hc, zl_s5 hc, zs_s5 hc, zn_s5 hc, zl_s6 hc, zs_s6 hc, zn_s6 hc, zl_s7 hc, zs_s7 hc, zn_s7 hc, zc_s hc, true_and, e2, show zix 2 = 2 from rfl, u2]
  exact c48_loop hc hV hn h10 hT n 0 h 0 0 (s 8) 0 none none (by omega) (sc_rf h) hQ
end
