/-! slanted, check -/
section
variable {d : Nat} {x0 x1 x2 x3 x4 v x a u : Int32} {h h' h1 h2 : zH} {n m N n' m' k w j f b c t i z : Nat} {s row row' F : Nat → Int32} {Q : Option Value → zH → Prop} {τ : zTau}
theorem p_slanted : zPair (d + 20) (d + 20) 78 188 [.int x0, .int x1] := by
  intro h Q2 hR hQ
  have hR0 := hR
  obtain ⟨n, m, N, hRN⟩ := hR
  obtain ⟨⟨hSt, hm⟩, hu, -, hSh, -⟩ := id hRN
  obtain ⟨hTC, hTR⟩ := zSt_tau hSt
  rw [rSheets_all] at hSh
  have hx : ∀ v, (∀ h1 Q, h1 = h → zM (d + 20) 188 [.ref 60, .int x0, .int x1] h1 Q = Q (some (.int v)) h) → zPo h (d + 20) 188 [.int x0, .int x1] Q2 (some (.int v)) h := by
    intro v e
    refine zPo_in rfl rfl ?_
    rw [e _ _ rfl]
    exact zPq_in rfl (hQ _ _ hR0 rfl rfl)
  by_cases g0 : 0 ≤ x0 ∧ x0 ≤ 3
  · obtain ⟨k, hk, rfl⟩ := hasN (q := 3) (by decide) g0
    have hk4 : k < 4 := by omega
    have hc := zsh_k hk4
    obtain ⟨q1, q2, ⟨z, hz, q3, q3'⟩, q4⟩ := hSh k hk4
    have q2' := sort_neg q2
    have zz4 := zok_nI hk4 (by omega : 4 < 2 ^ 31)
    have zy4 : zix (nI k) = k := zix_nI (by omega)
    rw [m78]
    simp (decide := true) only [↓r78_0, ↓r78_1, ↓r78_2, ↓r78_5, ↓r78_5n, ↓r78_6, ↓r78_6n, ↓r78_7, ↓r78_7n, ↓r78_10, ↓r78_11, ↓r78_12, ↓r78_13, ↓r78_16, ↓r78_19, ↓r78_21, ↓r78_22, ↓r78_22n, ↓r78_23, ↓r78_26, ↓r78_29, ↓r78_31, ↓r78_32, ↓r78_33, ↓r78_35, ↓r78_36, ↓r78_38, ↓r78_39, ↓r78_43, ↓r78_45, ↓r78_48, ↓r78_49, ↓r78_49n, ↓r78_50, ↓r78_52, ↓r78_55, ↓r78_57, ↓r78_59, ↓r78_62, ↓r78_64, ↓r78_66, ↓r78_69, ↓r78_71, ↓r78_73, ↓r78_75, ↓r78_77, ↓r78_80, ↓r78_84, ↓r78_87, ↓r78_89, ↓r78_92, ↓r78_94, c95k hk4, c103, c32 hc, q1, zc_h hc, Option.toList, List.cons_append, List.nil_append, true_and]
    by_cases g1 : 0 ≤ x1 ∧ x1 ≤ 1
    · simp (decide := true) only [if_pos g1, ↓reduceIte]
      by_cases g2 : h 64 k = -1
      · simp (decide := true) only [if_pos g2, ↓reduceIte]
        refine hx _ fun h1 Q e => ?_
        subst e
        rw [m188]
        simp (decide := true) only [↓r188_0, ↓r188_1, ↓r188_4, ↓r188_7, ↓r188_8, ↓r188_9, ↓r188_10, ↓r188_11, ↓r188_14, ↓r188_17, ↓r188_19, ↓r188_20, ↓r188_21, ↓r188_24, ↓r188_25, ↓r188_26, ↓r188_29, ↓r188_32, ↓r188_33, ↓r188_34, ↓r188_37, ↓r188_38, ↓r188_39, ↓r188_40, ↓r188_42, ↓r188_43, ↓r188_47, ↓r188_49, ↓r188_52, ↓r188_53, ↓r188_56, ↓r188_58, ↓r188_60, ↓r188_61, ↓r188_62, ↓r188_64, ↓r188_65, ↓r188_69, ↓r188_70, ↓r188_73, ↓r188_74, ↓r188_75, ↓r188_78, ↓r188_79, ↓r188_82, ↓r188_84, ↓r188_85, ↓r188_86, ↓r188_88, ↓r188_89, ↓r188_90, ↓r188_92, ↓r188_94, ↓r188_96, ↓r188_98, ↓r188_101, ↓r188_102, ↓r188_105, ↓r188_107, ↓r188_108, ↓r188_111, ↓r188_112, ↓r188_113, ↓r188_116, ↓r188_117, ↓r188_119, ↓r188_120, ↓r188_123, ↓r188_126, ↓r188_129, ↓r188_130, ↓r188_133, ↓r188_134, ↓r188_137, ↓r188_139, ↓r188_141, ↓r188_144, ↓r188_146, ↓r188_147, ↓r188_149, ↓r188_151, ↓r188_154, ↓r188_158, ↓r188_161, ↓r188_162, ↓r188_165, ↓r188_167, c183, c106, if_pos g0, if_pos g1, ↓reduceIte, Option.toList, List.cons_append, List.nil_append, zl_64, zz4, zy4, q2', if_pos g2, true_and]
      · simp (decide := true) only [if_neg g2, ↓reduceIte]
        have hen : ∀ i, i < 24 → shEnc (h (35 + 2 * k + 1) i) (h 66 (24 * k + i)) := fun i hi => by
          rw [show 35 + 2 * k + 1 = 36 + 2 * k by omega]; exact q4 i hi
        have hF : ∀ l, l < z → h (35 + 2 * k + 1) l = h (35 + 2 * k + 1) l ∧ (¬ h (35 + 2 * k + 1) l = -2147483648 → -99999 ≤ h (35 + 2 * k + 1) l ∧ h (35 + 2 * k + 1) l ≤ 99999) := by
          intro l hl
          refine ⟨rfl, fun q => ?_⟩
          rcases hen l (by omega) with ⟨_, b⟩ | ⟨_, _, b⟩
          · exact absurd b q
          · exact b
        refine c78_loop (d := d + 10) (n := n) (m := m) hc (by omega) (by omega) hSt.1 hTC hSt.2.2.2.2.2 hSt.2.1 hm q3' hz hF (fun h1 o7 e1 => ?_) 61 0 h none (by omega) td_rf
        have e61 : h1 61 = h 61 := e1 _ (by omega) (by omega)
        have e60 : h1 60 = h 60 := e1 _ (by omega) (by omega)
        have hr : ∀ v, ((if x1 = 0 then (zfo (pkC lessB (dfV (zTauOf h 10) n z (h 61) (h (35 + 2 * k + 1)))) 61 (0, 0)).1 else (zfo (pkC lessB (dfV (zTauOf h 10) n z (h 61) (h (35 + 2 * k + 1)))) 61 (0, 0)).2) = v) → zPo h (d + 20) 188 [.int (nI k), .int x1] Q2 (some (.int v)) h1 := by
          intro v hv
          refine zPo_in (e1 _ (by omega) (by omega)) (e1 _ (by omega) (by omega)) ?_
          rw [m188]
          simp (decide := true) only [↓r188_0, ↓r188_1, ↓r188_4, ↓r188_7, ↓r188_8, ↓r188_9, ↓r188_10, ↓r188_11, ↓r188_14, ↓r188_17, ↓r188_19, ↓r188_20, ↓r188_21, ↓r188_24, ↓r188_25, ↓r188_26, ↓r188_29, ↓r188_32, ↓r188_33, ↓r188_34, ↓r188_37, ↓r188_38, ↓r188_39, ↓r188_40, ↓r188_42, ↓r188_43, ↓r188_47, ↓r188_49, ↓r188_52, ↓r188_53, ↓r188_56, ↓r188_58, ↓r188_60, ↓r188_61, ↓r188_62, ↓r188_64, ↓r188_65, ↓r188_69, ↓r188_70, ↓r188_73, ↓r188_74, ↓r188_75, ↓r188_78, ↓r188_79, ↓r188_82, ↓r188_84, ↓r188_85, ↓r188_86, ↓r188_88, ↓r188_89, ↓r188_90, ↓r188_92, ↓r188_94, ↓r188_96, ↓r188_98, ↓r188_101, ↓r188_102, ↓r188_105, ↓r188_107, ↓r188_108, ↓r188_111, ↓r188_112, ↓r188_113, ↓r188_116, ↓r188_117, ↓r188_119, ↓r188_120, ↓r188_123, ↓r188_126, ↓r188_129, ↓r188_130, ↓r188_133, ↓r188_134, ↓r188_137, ↓r188_139, ↓r188_141, ↓r188_144, ↓r188_146, ↓r188_147, ↓r188_149, ↓r188_151, ↓r188_154, ↓r188_158, ↓r188_161, ↓r188_162, ↓r188_165, ↓r188_167, c183, c106, if_pos g0, if_pos g1, ↓reduceIte, Option.toList, List.cons_append, List.nil_append, zl_64, e1 64 (by omega) (by omega), zz4, zy4, q2', if_neg g2, true_and]
          refine c150 ?_
          simp only [↓r188_0, ↓r188_1, ↓r188_4, ↓r188_7, ↓r188_8, ↓r188_9, ↓r188_10, ↓r188_11, ↓r188_14, ↓r188_17, ↓r188_19, ↓r188_20, ↓r188_21, ↓r188_24, ↓r188_25, ↓r188_26, ↓r188_29, ↓r188_32, ↓r188_33, ↓r188_34, ↓r188_37, ↓r188_38, ↓r188_39, ↓r188_40, ↓r188_42, ↓r188_43, ↓r188_47, ↓r188_49, ↓r188_52, ↓r188_53, ↓r188_56, ↓r188_58, ↓r188_60, ↓r188_61, ↓r188_62, ↓r188_64, ↓r188_65, ↓r188_69, ↓r188_70, ↓r188_73, ↓r188_74, ↓r188_75, ↓r188_78, ↓r188_79, ↓r188_82, ↓r188_84, ↓r188_85, ↓r188_86, ↓r188_88, ↓r188_89, ↓r188_90, ↓r188_92, ↓r188_94, ↓r188_96, ↓r188_98, ↓r188_101, ↓r188_102, ↓r188_105, ↓r188_107, ↓r188_108, ↓r188_111, ↓r188_112, ↓r188_113, ↓r188_116, ↓r188_117, ↓r188_119, ↓r188_120, ↓r188_123, ↓r188_126, ↓r188_129, ↓r188_130, ↓r188_133, ↓r188_134, ↓r188_137, ↓r188_139, ↓r188_141, ↓r188_144, ↓r188_146, ↓r188_147, ↓r188_149, ↓r188_151, ↓r188_154, ↓r188_158, ↓r188_161, ↓r188_162, ↓r188_165, ↓r188_167, Option.toList, List.cons_append, List.nil_append]
          have hh := rl_by (h := h1) trivial
          have key := c188_loop (d := d + 11) (h := h1) (τ := zTauOf h 10) (n := n) (m := m) (x1 := x1) (z := z) (F := h (35 + 2 * k + 1)) (Q := zPq v Q2) hk4 (zTR_same e61 hTR) (by rw [e60]; exact hu) (by rw [e61]; exact hSt.2.1) hm (by rw [e1 65 (by omega) (by omega)]; exact q3) hz (by rw [e1 66 (by omega) (by omega)]; exact hen) (fun h2 o6 o7 o8 e2 => ?_) 61 0 (zhr h1 73 (fun k => if k < 62 then h1 61 k else h1 73 k)) none none none (by omega) hh
          · exact key
          · rw [e61, (pkeq lessB (dfV (zTauOf h 10) n z (h 61) (h (35 + 2 * k + 1))) (-1, 0) (0, 0) (by decide) 60 (by omega)).1]
            have ee := hQ v h2 ⟨n, m, N, zRel_rl hRN e1 e2⟩ ((e2.1 _ (by omega) (by omega) (by omega) (by omega)).trans (e1 _ (by omega) (by omega))) ((e2.1 _ (by omega) (by omega) (by omega) (by omega)).trans (e1 _ (by omega) (by omega)))
            simp only [↓r188_0, ↓r188_1, ↓r188_4, ↓r188_7, ↓r188_8, ↓r188_9, ↓r188_10, ↓r188_11, ↓r188_14, ↓r188_17, ↓r188_19, ↓r188_20, ↓r188_21, ↓r188_24, ↓r188_25, ↓r188_26, ↓r188_29, ↓r188_32, ↓r188_33, ↓r188_34, ↓r188_37, ↓r188_38, ↓r188_39, ↓r188_40, ↓r188_42, ↓r188_43, ↓r188_47, ↓r188_49, ↓r188_52, ↓r188_53, ↓r188_56, ↓r188_58, ↓r188_60, ↓r188_61, ↓r188_62, ↓r188_64, ↓r188_65, ↓r188_69, ↓r188_70, ↓r188_73, ↓r188_74, ↓r188_75, ↓r188_78, ↓r188_79, ↓r188_82, ↓r188_84, ↓r188_85, ↓r188_86, ↓r188_88, ↓r188_89, ↓r188_90, ↓r188_92, ↓r188_94, ↓r188_96, ↓r188_98, ↓r188_101, ↓r188_102, ↓r188_105, ↓r188_107, ↓r188_108, ↓r188_111, ↓r188_112, ↓r188_113, ↓r188_116, ↓r188_117, ↓r188_119, ↓r188_120, ↓r188_123, ↓r188_126, ↓r188_129, ↓r188_130, ↓r188_133, ↓r188_134, ↓r188_137, ↓r188_139, ↓r188_141, ↓r188_144, ↓r188_146, ↓r188_147, ↓r188_149, ↓r188_151, ↓r188_154, ↓r188_157, ↓r188_158, ↓r188_161, ↓r188_162, ↓r188_165, ↓r188_167]
            by_cases g3 : x1 = 0
            · rw [if_pos g3] at hv ⊢
              exact zPq_in hv ee
            · rw [if_neg g3] at hv ⊢
              exact zPq_in hv ee
        simp only [↓r78_0, ↓r78_1, ↓r78_2, ↓r78_5, ↓r78_5n, ↓r78_6, ↓r78_6n, ↓r78_7, ↓r78_7n, ↓r78_10, ↓r78_11, ↓r78_12, ↓r78_13, ↓r78_16, ↓r78_19, ↓r78_21, ↓r78_22, ↓r78_22n, ↓r78_23, ↓r78_26, ↓r78_29, ↓r78_31, ↓r78_32, ↓r78_33, ↓r78_35, ↓r78_36, ↓r78_38, ↓r78_39, ↓r78_43, ↓r78_45, ↓r78_48, ↓r78_49, ↓r78_49n, ↓r78_50, ↓r78_52, ↓r78_55, ↓r78_57, ↓r78_59, ↓r78_62, ↓r78_64, ↓r78_66, ↓r78_69, ↓r78_71, ↓r78_73, ↓r78_75, ↓r78_77, ↓r78_80, ↓r78_83, ↓r78_84, ↓r78_87, ↓r78_89, ↓r78_92, ↓r78_94]
        by_cases g3 : x1 = 0
        · rw [if_pos g3]
          exact hr _ (if_pos g3)
        · rw [if_neg g3]
          exact hr _ (if_neg g3)
    · simp (decide := true) only [if_neg g1, ↓reduceIte]
      refine hx _ fun h1 Q e => ?_
      subst e
      rw [m188]
      simp (decide := true) only [↓r188_0, ↓r188_1, ↓r188_4, ↓r188_7, ↓r188_8, ↓r188_9, ↓r188_10, ↓r188_11, ↓r188_14, ↓r188_17, ↓r188_19, ↓r188_20, ↓r188_21, ↓r188_24, ↓r188_25, ↓r188_26, ↓r188_29, ↓r188_32, ↓r188_33, ↓r188_34, ↓r188_37, ↓r188_38, ↓r188_39, ↓r188_40, ↓r188_42, ↓r188_43, ↓r188_47, ↓r188_49, ↓r188_52, ↓r188_53, ↓r188_56, ↓r188_58, ↓r188_60, ↓r188_61, ↓r188_62, ↓r188_64, ↓r188_65, ↓r188_69, ↓r188_70, ↓r188_73, ↓r188_74, ↓r188_75, ↓r188_78, ↓r188_79, ↓r188_82, ↓r188_84, ↓r188_85, ↓r188_86, ↓r188_88, ↓r188_89, ↓r188_90, ↓r188_92, ↓r188_94, ↓r188_96, ↓r188_98, ↓r188_101, ↓r188_102, ↓r188_105, ↓r188_107, ↓r188_108, ↓r188_111, ↓r188_112, ↓r188_113, ↓r188_116, ↓r188_117, ↓r188_119, ↓r188_120, ↓r188_123, ↓r188_126, ↓r188_129, ↓r188_130, ↓r188_133, ↓r188_134, ↓r188_137, ↓r188_139, ↓r188_141, ↓r188_144, ↓r188_146, ↓r188_147, ↓r188_149, ↓r188_151, ↓r188_154, ↓r188_158, ↓r188_161, ↓r188_162, ↓r188_165, ↓r188_167, c183, c106, if_pos g0, if_neg g1, ↓reduceIte, Option.toList, List.cons_append, List.nil_append]
  · rw [m78]
    simp (decide := true) only [↓r78_0, ↓r78_1, ↓r78_2, ↓r78_5, ↓r78_5n, ↓r78_6, ↓r78_6n, ↓r78_7, ↓r78_7n, ↓r78_10, ↓r78_11, ↓r78_12, ↓r78_13, ↓r78_16, ↓r78_19, ↓r78_21, ↓r78_22, ↓r78_22n, ↓r78_23, ↓r78_26, ↓r78_29, ↓r78_31, ↓r78_32, ↓r78_33, ↓r78_35, ↓r78_36, ↓r78_38, ↓r78_39, ↓r78_43, ↓r78_45, ↓r78_48, ↓r78_49, ↓r78_49n, ↓r78_50, ↓r78_52, ↓r78_55, ↓r78_57, ↓r78_59, ↓r78_62, ↓r78_64, ↓r78_66, ↓r78_69, ↓r78_71, ↓r78_73, ↓r78_75, ↓r78_77, ↓r78_80, ↓r78_84, ↓r78_87, ↓r78_89, ↓r78_92, ↓r78_94, c95n g0, Option.toList, List.cons_append, List.nil_append, true_and]
    refine hx _ fun h1 Q e => ?_
    subst e
    rw [m188]
    simp (decide := true) only [↓r188_0, ↓r188_1, ↓r188_4, ↓r188_7, ↓r188_8, ↓r188_9, ↓r188_10, ↓r188_11, ↓r188_14, ↓r188_17, ↓r188_19, ↓r188_20, ↓r188_21, ↓r188_24, ↓r188_25, ↓r188_26, ↓r188_29, ↓r188_32, ↓r188_33, ↓r188_34, ↓r188_37, ↓r188_38, ↓r188_39, ↓r188_40, ↓r188_42, ↓r188_43, ↓r188_47, ↓r188_49, ↓r188_52, ↓r188_53, ↓r188_56, ↓r188_58, ↓r188_60, ↓r188_61, ↓r188_62, ↓r188_64, ↓r188_65, ↓r188_69, ↓r188_70, ↓r188_73, ↓r188_74, ↓r188_75, ↓r188_78, ↓r188_79, ↓r188_82, ↓r188_84, ↓r188_85, ↓r188_86, ↓r188_88, ↓r188_89, ↓r188_90, ↓r188_92, ↓r188_94, ↓r188_96, ↓r188_98, ↓r188_101, ↓r188_102, ↓r188_105, ↓r188_107, ↓r188_108, ↓r188_111, ↓r188_112, ↓r188_113, ↓r188_116, ↓r188_117, ↓r188_119, ↓r188_120, ↓r188_123, ↓r188_126, ↓r188_129, ↓r188_130, ↓r188_133, ↓r188_134, ↓r188_137, ↓r188_139, ↓r188_141, ↓r188_144, ↓r188_146, ↓r188_147, ↓r188_149, ↓r188_151, ↓r188_154, ↓r188_158, ↓r188_161, ↓r188_162, ↓r188_165, ↓r188_167, c183, if_neg g0, ↓reduceIte, Option.toList, List.cons_append, List.nil_append]
/-- the row that is due: what it holds at a place -/
def dueR (τ : zTau) (n : Nat) (s : Nat → Int32) (p : Nat) : Int32 := stepN τ (-1) n (p / 2 + 1) s (3 + p % 2)
/-- the first place that differs -/
def chkR (T D : Nat → Int32) (w e : Nat) : Nat → Nat → Nat
  | 0, p => p
  | f + 1, p => if p < w ∧ p < e ∧ T p = D p then chkR T D w e f (p + 1) else p
theorem c99 (hp : j < 60) (hw : w ≤ 60) : zM (d + 2) 99 [.ref 0, .int (nI j), .int (nI w), .int x2] h Q = if j < w ∧ h 59 j = x2 then Q (some (.int 1)) h else Q (some (.int 0)) h := by
  have g : 0 ≤ nI j ∧ nI j ≤ 59 := ⟨nI_pos' (by omega), nI_le (b := 59) (by omega) (by omega)⟩
  rw [m99]
  simp only [↓r99_0, ↓r99_1, ↓r99_2, ↓r99_5, ↓r99_6, ↓r99_7, ↓r99_9, ↓r99_12, ↓r99_15, ↓r99_16, ↓r99_19, ↓r99_20, ↓r99_21, ↓r99_22, ↓r99_25, ↓r99_26, ↓r99_29, ↓r99_30f, ↓r99_30t, c103, if_pos g, Option.toList, List.cons_append, List.nil_append, nI_ltk (by omega : j < 2 ^ 31) (by omega : w < 2 ^ 31), zl_59, zok_nI hp (by omega), zix_nI (by omega : j < 2 ^ 31), true_and, zc_10, zc_18, zc_26, zc_0, zc_1, zc_7, zc_60, Nat.reduceAdd, true_and]
  by_cases g1 : j < w
  · by_cases g2 : h 59 j = x2
    · simp (decide := true) only [if_pos g1, if_pos g2, if_pos (And.intro g1 g2), ↓reduceIte]
    · simp (decide := true) only [if_pos g1, if_neg g2, if_neg (fun z : j < w ∧ h 59 j = x2 => g2 z.2), ↓reduceIte]
  · simp (decide := true) only [if_neg g1, if_neg (fun z : j < w ∧ h 59 j = x2 => g1 z.1), ↓reduceIte]
end
