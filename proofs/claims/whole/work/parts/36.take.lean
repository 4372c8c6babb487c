section
variable {d : Nat} {Q : Option Value → zH → Prop} {h h' : zH} {x x0 x1 x2 x3 x4 v : Int32} {c n k m i l w j : Nat} {τ : zTau} {s r : Nat → Int32}
theorem zV_cong (hV : zV h c s) (e : ∀ k, k < 62 → r k = s k) : zV h c r := by
  obtain ⟨⟨v0, v1, v2, v3, v4, v5⟩, ⟨u0, u1, u2, u3, u4, u5⟩, hl⟩ := hV
  unfold zV
  rw [e 0 (by omega), e 1 (by omega), e 2 (by omega), e 3 (by omega), e 4 (by omega), e 5 (by omega), e 6 (by omega), e 7 (by omega), e 8 (by omega), e 9 (by omega), e 10 (by omega), e 11 (by omega)]
  refine ⟨⟨v0, v1, v2, v3, v4, v5⟩, ⟨u0, u1, u2, u3, u4, u5⟩, fun l hl' => ?_⟩
  rw [e _ (by omega), e _ (by omega), e _ (by omega), e _ (by omega), e _ (by omega)]
  exact hl l hl'
theorem zV_sq0 (hc : zst c) (hV : zV h c s) : h (c + 6) 3 = s 9 ∧ h c 11 = s 5 ∧ h c 10 = s 2 ∧ h c 8 = s 3 ∧ h c 9 = s 4 ∧ h c 1 = s 0 := ⟨hV.2.1.2.2.2.1, hV.1.2.2.2.2.2, hV.1.2.2.1, hV.1.2.2.2.1, hV.1.2.2.2.2.1, hV.1.1⟩
/-- from the minutes on: any row r that the State shows -/
theorem c54_end (hc : zst c) {time ab : Int32} {o3 : Option Value} (hV : zV h c r) (hn : r 0 = nI n) (h10 : n ≤ 10) (hQ : ∀ h', sq c h h' → zV h' c (sEnd (zfo (cWaitF ab time) n (upd r 3 (r 3 + time)))) → Q none h') : zR (d + 2) 54 Q 69 [some (.ref c), some (.int ab), some (.int time), o3] [] h := by
  have e3 : zok 3 6 = True := by unfold zok; decide
  have w3 : zix 3 = 3 := rfl
  obtain ⟨q1, q2, q3, q4, q5, q6⟩ := zV_sq0 hc hV
  simp only [↓r54_0, ↓r54_1, ↓r54_2, ↓r54_3, ↓r54_4, ↓r54_7, ↓r54_8, ↓r54_9, ↓r54_10, ↓r54_13, ↓r54_14, ↓r54_17, ↓r54_18, ↓r54_19, ↓r54_22, ↓r54_24, ↓r54_25, ↓r54_28, ↓r54_29, ↓r54_32, ↓r54_35, ↓r54_36, ↓r54_37, ↓r54_40, ↓r54_41, ↓r54_44, ↓r54_45, ↓r54_46, ↓r54_49, ↓r54_50, ↓r54_51, ↓r54_52, ↓r54_55, ↓r54_56, ↓r54_57, ↓r54_60, ↓r54_61, ↓r54_64, ↓r54_65, ↓r54_66, ↓r54_69, ↓r54_70, ↓r54_71, ↓r54_74, ↓r54_75, ↓r54_76, ↓r54_79, ↓r54_80, ↓r54_82, ↓r54_83, ↓r54_86, ↓r54_89, ↓r54_90, ↓r54_91, ↓r54_92, ↓r54_93, ↓r54_94, ↓r54_97, ↓r54_98, ↓r54_101, ↓r54_102, ↓r54_103, ↓r54_104, ↓r54_105, ↓r54_106, ↓r54_107, ↓r54_110, ↓r54_113, ↓r54_114, ↓r54_117, ↓r54_118, ↓r54_119, ↓r54_122, ↓r54_123, ↓r54_124, ↓r54_125, ↓r54_128, ↓r54_130, ↓r54_131, ↓r54_132, ↓r54_133, ↓r54_134, ↓r54_135, ↓r54_137, ↓r54_140, ↓r54_141, ↓r54_142, ↓r54_143, ↓r54_146, ↓r54_147, ↓r54_148, ↓r54_151, zl_s1 hc, zs_s1 hc, zn_s1 hc, zl_s2 hc, zs_s2 hc, zn_s2 hc, zl_s3 hc, zs_s3 hc, zn_s3 hc, zl_s4 hc, zs_s4 hc, zn_s4 hc, zl_s5 hc, zs_s5 hc, zn_s5 hc, zl_s6 hc, zs_s6 hc, zn_s6 hc, zl_s7 hc, zs_s7 hc, zn_s7 hc, zc_s hc, true_and, q4]
  have V1 := zV_fld (v := r 3 + time) (Or.inr (Or.inr (Or.inr (Or.inl ⟨rfl, rfl⟩)))) hV
  have S1 : sq c h (zhr h c (upd (h c) 8 (r 3 + time))) := sq_fld (by omega)
  generalize zhr h c (upd (h c) 8 (r 3 + time)) = h1 at V1 S1 ⊢
  have hn1 : upd r 3 (r 3 + time) 0 = nI n := by rw [zup_ap, if_neg (by omega)]; exact hn
  generalize upd r 3 (r 3 + time) = r1 at V1 hn1 hQ
  have hs : ∀ (i : Nat) (h' : zH), i < n → (zV h' c (zfo (cWaitF ab time) i r1) ∧ sq c h h') → (zR (d + 2) 54 Q 81 [some (.ref c), some (.int ab), some (.int time), some (.int (nI i))] [] h' = zR (d + 2) 54 Q 81 [some (.ref c), some (.int ab), some (.int time), some (.int (nI (i + 1)))] [] (if bitOf ab i = 0 then zhr h' (c + 4) (upd (h' (c + 4)) i (h' (c + 4) i + time)) else h')) ∧ (zV (if bitOf ab i = 0 then zhr h' (c + 4) (upd (h' (c + 4)) i (h' (c + 4) i + time)) else h') c (zfo (cWaitF ab time) (i + 1) r1) ∧ sq c h (if bitOf ab i = 0 then zhr h' (c + 4) (upd (h' (c + 4)) i (h' (c + 4) i + time)) else h')) := by
    intro i h' hi hI
    obtain ⟨I1, I2⟩ := hI
    have i0 : h' c 1 = nI n := by
      rw [(zV_sq0 hc I1).2.2.2.2.2, cWait_lo _ _ _ _ _ (Or.inl (by omega))]; exact hn1
    constructor
    · rw [r54_81]
      simp only [↓r54_0, ↓r54_1, ↓r54_2, ↓r54_3, ↓r54_4, ↓r54_7, ↓r54_8, ↓r54_9, ↓r54_10, ↓r54_13, ↓r54_14, ↓r54_17, ↓r54_18, ↓r54_19, ↓r54_22, ↓r54_24, ↓r54_25, ↓r54_28, ↓r54_29, ↓r54_32, ↓r54_35, ↓r54_36, ↓r54_37, ↓r54_40, ↓r54_41, ↓r54_44, ↓r54_45, ↓r54_46, ↓r54_49, ↓r54_50, ↓r54_51, ↓r54_52, ↓r54_55, ↓r54_56, ↓r54_57, ↓r54_60, ↓r54_61, ↓r54_64, ↓r54_65, ↓r54_66, ↓r54_69, ↓r54_70, ↓r54_71, ↓r54_74, ↓r54_75, ↓r54_76, ↓r54_79, ↓r54_80, ↓r54_82, ↓r54_83, ↓r54_86, ↓r54_89, ↓r54_90, ↓r54_91, ↓r54_92, ↓r54_93, ↓r54_94, ↓r54_97, ↓r54_98, ↓r54_101, ↓r54_102, ↓r54_103, ↓r54_104, ↓r54_105, ↓r54_106, ↓r54_107, ↓r54_110, ↓r54_113, ↓r54_114, ↓r54_117, ↓r54_118, ↓r54_119, ↓r54_122, ↓r54_123, ↓r54_124, ↓r54_125, ↓r54_128, ↓r54_130, ↓r54_131, ↓r54_132, ↓r54_133, ↓r54_134, ↓r54_135, ↓r54_137, ↓r54_140, ↓r54_141, ↓r54_142, ↓r54_143, ↓r54_146, ↓r54_147, ↓r54_148, ↓r54_151, zl_s1 hc, zs_s1 hc, zn_s1 hc, zl_s2 hc, zs_s2 hc, zn_s2 hc, zl_s3 hc, zs_s3 hc, zn_s3 hc, zl_s4 hc, zs_s4 hc, zn_s4 hc, zl_s5 hc, zs_s5 hc, zn_s5 hc, zl_s6 hc, zs_s6 hc, zn_s6 hc, zl_s7 hc, zs_s7 hc, zn_s7 hc, zc_s hc, true_and, i0, nI_lt hi (by omega : n < 2 ^ 31), if_true, nI_1, zok_nI (by omega : i < 10) (by omega), zix_nI (by omega : i < 2 ^ 31)]
      by_cases g : bitOf ab i = 0
      · have g' : ab >>> (nI i &&& 31) &&& 1 = 0 := g
        simp only [if_pos g, if_pos g']
      · have g' : ¬ ab >>> (nI i &&& 31) &&& 1 = 0 := g
        simp only [if_neg g, if_neg g']
    · show zV _ c (cWaitF ab time i (zfo (cWaitF ab time) i r1)) ∧ _
      generalize zfo (cWaitF ab time) i r1 = r at I1 ⊢
      unfold cWaitF
      by_cases g : bitOf ab i = 0
      · simp only [if_pos g]
        have e4 : h' (c + 4) i = r (12 + 5 * i + 3) := (I1.2.2 i (by omega)).2.2.2.1
        rw [e4]
        exact ⟨zV_load (w := 3) (by omega) (by omega : i < 10) I1, sq_tr I2 (sq_row (Or.inr (Or.inl rfl)))⟩
      · simp only [if_neg g]
        exact ⟨I1, I2⟩
  have := zloopI (fun i (h' : zH) => zR (d + 2) 54 Q 81 [some (.ref c), some (.int ab), some (.int time), some (.int (nI i))] [] h') (fun i h' => zV h' c (zfo (cWaitF ab time) i r1) ∧ sq c h h') _ n hs h1 ⟨V1, S1⟩
  obtain ⟨hW, hI⟩ := this
  simp only [nI_0] at hW
  rw [hW]
  generalize zfo (fun i h' => _) n h1 = h2 at hI ⊢
  obtain ⟨I1, I2⟩ := hI
  generalize hZ : zfo (cWaitF ab time) n r1 = Z at I1 hQ
  have z0 : Z 0 = nI n := by rw [← hZ, cWait_lo _ _ _ _ _ (Or.inl (by omega))]; exact hn1
  obtain ⟨p1, p2, p3, p4, p5, p6⟩ := zV_sq0 hc I1
  have c39' := fun (Q' : Option Value → zH → Prop) => c39 (d := d + 1) (Q := Q') (h := h2) hc
  have hne6 : ¬ c + 6 = c := by omega
  have hne6' : ¬ c = c + 6 := by omega
  rw [r54_81]
  simp only [↓r54_0, ↓r54_1, ↓r54_2, ↓r54_3, ↓r54_4, ↓r54_7, ↓r54_8, ↓r54_9, ↓r54_10, ↓r54_13, ↓r54_14, ↓r54_17, ↓r54_18, ↓r54_19, ↓r54_22, ↓r54_24, ↓r54_25, ↓r54_28, ↓r54_29, ↓r54_32, ↓r54_35, ↓r54_36, ↓r54_37, ↓r54_40, ↓r54_41, ↓r54_44, ↓r54_45, ↓r54_46, ↓r54_49, ↓r54_50, ↓r54_51, ↓r54_52, ↓r54_55, ↓r54_56, ↓r54_57, ↓r54_60, ↓r54_61, ↓r54_64, ↓r54_65, ↓r54_66, ↓r54_69, ↓r54_70, ↓r54_71, ↓r54_74, ↓r54_75, ↓r54_76, ↓r54_79, ↓r54_80, ↓r54_82, ↓r54_83, ↓r54_86, ↓r54_89, ↓r54_90, ↓r54_91, ↓r54_92, ↓r54_93, ↓r54_94, ↓r54_97, ↓r54_98, ↓r54_101, ↓r54_102, ↓r54_103, ↓r54_104, ↓r54_105, ↓r54_106, ↓r54_107, ↓r54_110, ↓r54_113, ↓r54_114, ↓r54_117, ↓r54_118, ↓r54_119, ↓r54_122, ↓r54_123, ↓r54_124, ↓r54_125, ↓r54_128, ↓r54_130, ↓r54_131, ↓r54_132, ↓r54_133, ↓r54_134, ↓r54_135, ↓r54_137, ↓r54_140, ↓r54_141, ↓r54_142, ↓r54_143, ↓r54_146, ↓r54_147, ↓r54_148, ↓r54_151, zl_s1 hc, zs_s1 hc, zn_s1 hc, zl_s2 hc, zs_s2 hc, zn_s2 hc, zl_s3 hc, zs_s3 hc, zn_s3 hc, zl_s4 hc, zs_s4 hc, zn_s4 hc, zl_s5 hc, zs_s5 hc, zn_s5 hc, zl_s6 hc, zs_s6 hc, zn_s6 hc, zl_s7 hc, zs_s7 hc, zn_s7 hc, zc_s hc, true_and, p6, z0, nI_nlt (Nat.le_refl n) (by omega), if_false, e3, w3, c39', p1, p2, c104, clI_eq (show (0 : Int32) ≤ 99 by decide), zhr_ap, if_neg hne6, if_neg hne6', if_true, zup_ap, Nat.reduceEqDiff, p3, Option.toList, List.cons_append, List.nil_append]
  have V2 := zV_fld (v := kNext (Z 5)) (Or.inr (Or.inr (Or.inr (Or.inr (Or.inr ⟨rfl, rfl⟩))))) I1
  have V3 := zV_rule (j := 3) (v := clI 0 99 (Z 9 + (kDraw (Z 5) - kDraw (Z 5) / 7 * 7) - 3)) (by omega) V2
  have V4 := zV_fld (v := Z 2 + 1) (Or.inr (Or.inr (Or.inl ⟨rfl, rfl⟩))) V3
  have S2 : sq c h2 (zhr h2 c (upd (h2 c) 11 (kNext (Z 5)))) := sq_fld (by omega)
  have S3 := sq_tr S2 (sq_row (j := 6) (row := upd (zhr h2 c (upd (h2 c) 11 (kNext (Z 5))) (c + 6)) 3 (clI 0 99 (Z 9 + (kDraw (Z 5) - kDraw (Z 5) / 7 * 7) - 3))) (Or.inr (Or.inr (Or.inr rfl))))
  have S4 := sq_tr S3 (sq_fld (j := 10) (v := Z 2 + 1) (by omega))
  have hfin := hQ _ (sq_tr I2 S4) ?_
  · simp only [zhr_ap, if_neg hne6, if_neg hne6', if_true] at hfin
    exact hfin
  · exact V4
theorem sStay_5 (g1 : pPull (τ 1) (s 9) 0 (s 7) ≤ s 10) (g2 : ¬ sStay τ s n = 0) : sStay τ s n = 5 := by
  unfold sStay at g2 ⊢
  simp only [if_pos g1] at g2 ⊢
  by_cases k1 : sCnt s (s 6) n < s 11
  · simp only [if_pos k1] at g2 ⊢
    by_cases k2 : sDoc s (s 6) n = true
    · exact absurd (by simp only [if_pos k2]) g2
    · simp only [if_neg k2] at g2 ⊢
      by_cases k3 : sCnt s (s 6) n ≤ 0
      · simp only [if_pos k3] at g2 ⊢
        by_cases k4 : sCnt s (1 - s 6) n = 0
        · simp only [if_pos k4]
        · exact absurd (by simp only [if_neg k4]) g2
      · simp only [if_neg k3]
  · exact absurd (by simp only [if_neg k1]) g2
theorem c54 (hc : zst c) (hV : zV h c s) (hB : zB s n m) (hT : zTC h c τ) (hQ : ∀ h', sq c h h' → zV h' c (stepM τ (h c 14) n s) → Q none h') : zM (d + 6) 54 [.ref c] h Q := by
  have e3 : zok 3 6 = True ∧ zok 4 6 = True := by unfold zok; decide
  obtain ⟨e3, e4⟩ := e3
  have w3 : zix 3 = 3 ∧ zix 4 = 4 := by decide
  obtain ⟨w3, w4⟩ := w3
  obtain ⟨⟨v0, v1, v2, v3, v4, v5⟩, ⟨u0, u1, u2, u3, u4, u5⟩, hl⟩ := id hV
  obtain ⟨⟨hn, h10⟩, hld, h6, h7, h9, h2, h3⟩ := id hB
  rw [m54]
  simp only [↓r54_0, ↓r54_1, ↓r54_2, ↓r54_3, ↓r54_4, ↓r54_7, ↓r54_8, ↓r54_9, ↓r54_10, ↓r54_13, ↓r54_14, ↓r54_17, ↓r54_18, ↓r54_19, ↓r54_22, ↓r54_24, ↓r54_25, ↓r54_28, ↓r54_29, ↓r54_32, ↓r54_35, ↓r54_36, ↓r54_37, ↓r54_40, ↓r54_41, ↓r54_44, ↓r54_45, ↓r54_46, ↓r54_49, ↓r54_50, ↓r54_51, ↓r54_52, ↓r54_55, ↓r54_56, ↓r54_57, ↓r54_60, ↓r54_61, ↓r54_64, ↓r54_65, ↓r54_66, ↓r54_70, ↓r54_71, ↓r54_74, ↓r54_75, ↓r54_76, ↓r54_79, ↓r54_80, ↓r54_82, ↓r54_83, ↓r54_86, ↓r54_89, ↓r54_90, ↓r54_91, ↓r54_92, ↓r54_93, ↓r54_94, ↓r54_97, ↓r54_98, ↓r54_101, ↓r54_102, ↓r54_103, ↓r54_104, ↓r54_105, ↓r54_106, ↓r54_107, ↓r54_110, ↓r54_113, ↓r54_114, ↓r54_117, ↓r54_118, ↓r54_119, ↓r54_122, ↓r54_123, ↓r54_124, ↓r54_125, ↓r54_128, ↓r54_130, ↓r54_131, ↓r54_132, ↓r54_133, ↓r54_134, ↓r54_135, ↓r54_137, ↓r54_140, ↓r54_141, ↓r54_142, ↓r54_143, ↓r54_146, ↓r54_147, ↓r54_148, ↓r54_151, zl_s1 hc, zs_s1 hc, zn_s1 hc, zl_s2 hc, zs_s2 hc, zn_s2 hc, zl_s3 hc, zs_s3 hc, zn_s3 hc, zl_s4 hc, zs_s4 hc, zn_s4 hc, zl_s5 hc, zs_s5 hc, zn_s5 hc, zl_s6 hc, zs_s6 hc, zn_s6 hc, zl_s7 hc, zs_s7 hc, zn_s7 hc, zc_s hc, true_and, e3, w3, u3]
  refine d45 hc hT (fun h1 hsc => ?_)
  obtain ⟨a0, a1⟩ := sc_at hc hsc
  have V1 := zV_sc hc hsc hV
  rw [u1]
  simp only [↓r54_0, ↓r54_1, ↓r54_2, ↓r54_3, ↓r54_4, ↓r54_7, ↓r54_8, ↓r54_9, ↓r54_10, ↓r54_13, ↓r54_14, ↓r54_17, ↓r54_18, ↓r54_19, ↓r54_22, ↓r54_24, ↓r54_25, ↓r54_28, ↓r54_29, ↓r54_32, ↓r54_35, ↓r54_36, ↓r54_37, ↓r54_40, ↓r54_41, ↓r54_44, ↓r54_45, ↓r54_46, ↓r54_49, ↓r54_50, ↓r54_51, ↓r54_52, ↓r54_55, ↓r54_56, ↓r54_57, ↓r54_60, ↓r54_61, ↓r54_64, ↓r54_65, ↓r54_66, ↓r54_70, ↓r54_71, ↓r54_74, ↓r54_75, ↓r54_76, ↓r54_79, ↓r54_80, ↓r54_82, ↓r54_83, ↓r54_86, ↓r54_89, ↓r54_90, ↓r54_91, ↓r54_92, ↓r54_93, ↓r54_94, ↓r54_97, ↓r54_98, ↓r54_101, ↓r54_102, ↓r54_103, ↓r54_104, ↓r54_105, ↓r54_106, ↓r54_107, ↓r54_110, ↓r54_113, ↓r54_114, ↓r54_117, ↓r54_118, ↓r54_119, ↓r54_122, ↓r54_123, ↓r54_124, ↓r54_125, ↓r54_128, ↓r54_130, ↓r54_131, ↓r54_132, ↓r54_133, ↓r54_134, ↓r54_135, ↓r54_137, ↓r54_140, ↓r54_141, ↓r54_142, ↓r54_143, ↓r54_146, ↓r54_147, ↓r54_148, ↓r54_151, zl_s1 hc, zs_s1 hc, zn_s1 hc, zl_s2 hc, zs_s2 hc, zn_s2 hc, zl_s3 hc, zs_s3 hc, zn_s3 hc, zl_s4 hc, zs_s4 hc, zn_s4 hc, zl_s5 hc, zs_s5 hc, zn_s5 hc, zl_s6 hc, zs_s6 hc, zn_s6 hc, zl_s7 hc, zs_s7 hc, zn_s7 hc, zc_s hc, true_and, e4, w4, a1, u4, Option.toList, List.cons_append, List.nil_append]
  unfold stepM at hQ
  by_cases g1 : pPull (τ 1) (s 9) 0 (s 7) ≤ s 10
  · simp only [if_pos g1]
    rw [c55 (d := d) hc V1 hB g1]
    by_cases g2 : sStay τ s n = 0
    · simp only [if_pos g2, ↓r54_0, ↓r54_1, ↓r54_2, ↓r54_3, ↓r54_4, ↓r54_7, ↓r54_8, ↓r54_9, ↓r54_10, ↓r54_13, ↓r54_14, ↓r54_17, ↓r54_18, ↓r54_19, ↓r54_22, ↓r54_24, ↓r54_25, ↓r54_28, ↓r54_29, ↓r54_32, ↓r54_35, ↓r54_36, ↓r54_37, ↓r54_40, ↓r54_41, ↓r54_44, ↓r54_45, ↓r54_46, ↓r54_49, ↓r54_50, ↓r54_51, ↓r54_52, ↓r54_55, ↓r54_56, ↓r54_57, ↓r54_60, ↓r54_61, ↓r54_64, ↓r54_65, ↓r54_66, ↓r54_70, ↓r54_71, ↓r54_74, ↓r54_75, ↓r54_76, ↓r54_79, ↓r54_80, ↓r54_82, ↓r54_83, ↓r54_86, ↓r54_89, ↓r54_90, ↓r54_91, ↓r54_92, ↓r54_93, ↓r54_94, ↓r54_97, ↓r54_98, ↓r54_101, ↓r54_102, ↓r54_103, ↓r54_104, ↓r54_105, ↓r54_106, ↓r54_107, ↓r54_110, ↓r54_113, ↓r54_114, ↓r54_117, ↓r54_118, ↓r54_119, ↓r54_122, ↓r54_123, ↓r54_124, ↓r54_125, ↓r54_128, ↓r54_130, ↓r54_131, ↓r54_132, ↓r54_133, ↓r54_134, ↓r54_135, ↓r54_137, ↓r54_140, ↓r54_141, ↓r54_142, ↓r54_143, ↓r54_146, ↓r54_147, ↓r54_148, ↓r54_151, if_true, Option.toList, List.cons_append, List.nil_append, zl_s1 hc, zs_s1 hc, zn_s1 hc, zl_s2 hc, zs_s2 hc, zn_s2 hc, zl_s3 hc, zs_s3 hc, zn_s3 hc, zl_s4 hc, zs_s4 hc, zn_s4 hc, zl_s5 hc, zs_s5 hc, zn_s5 hc, zl_s6 hc, zs_s6 hc, zn_s6 hc, zl_s7 hc, zs_s7 hc, zn_s7 hc, zc_s hc, true_and] at hQ ⊢
      refine c48 hc V1 hn h10 (zTC_sc hc hsc hT) (fun h2 hsc2 => ?_)
      have hsc12 := sc_tr hsc hsc2
      obtain ⟨b0, b1⟩ := sc_at hc hsc12
      have V2 := zV_sc hc hsc12 hV
      have e14 : h1 c 14 = h c 14 := by rw [a0]
      rw [e14]
      simp only [↓r54_0, ↓r54_1, ↓r54_2, ↓r54_3, ↓r54_4, ↓r54_7, ↓r54_8, ↓r54_9, ↓r54_10, ↓r54_13, ↓r54_14, ↓r54_17, ↓r54_18, ↓r54_19, ↓r54_22, ↓r54_24, ↓r54_25, ↓r54_28, ↓r54_29, ↓r54_32, ↓r54_35, ↓r54_36, ↓r54_37, ↓r54_40, ↓r54_41, ↓r54_44, ↓r54_45, ↓r54_46, ↓r54_49, ↓r54_50, ↓r54_51, ↓r54_52, ↓r54_55, ↓r54_56, ↓r54_57, ↓r54_60, ↓r54_61, ↓r54_64, ↓r54_65, ↓r54_66, ↓r54_70, ↓r54_71, ↓r54_74, ↓r54_75, ↓r54_76, ↓r54_79, ↓r54_80, ↓r54_82, ↓r54_83, ↓r54_86, ↓r54_89, ↓r54_90, ↓r54_91, ↓r54_92, ↓r54_93, ↓r54_94, ↓r54_97, ↓r54_98, ↓r54_101, ↓r54_102, ↓r54_103, ↓r54_104, ↓r54_105, ↓r54_106, ↓r54_107, ↓r54_110, ↓r54_113, ↓r54_114, ↓r54_117, ↓r54_118, ↓r54_119, ↓r54_122, ↓r54_123, ↓r54_124, ↓r54_125, ↓r54_128, ↓r54_130, ↓r54_131, ↓r54_132, ↓r54_133, ↓r54_134, ↓r54_135, ↓r54_137, ↓r54_140, ↓r54_141, ↓r54_142, ↓r54_143, ↓r54_146, ↓r54_147, ↓r54_148, ↓r54_151, Option.toList, List.cons_append, List.nil_append]
      rw [c47 hc (by rw [b1, u1]; exact h7.1) (by rw [b1, u1]; exact h7.2) (by rw [b1, u3]; exact h9.1) (by rw [b1, u3]; exact h9.2), b1, u1, u3]
      simp only [↓r54_0, ↓r54_1, ↓r54_2, ↓r54_3, ↓r54_4, ↓r54_7, ↓r54_8, ↓r54_9, ↓r54_10, ↓r54_13, ↓r54_14, ↓r54_17, ↓r54_18, ↓r54_19, ↓r54_22, ↓r54_24, ↓r54_25, ↓r54_28, ↓r54_29, ↓r54_32, ↓r54_35, ↓r54_36, ↓r54_37, ↓r54_40, ↓r54_41, ↓r54_44, ↓r54_45, ↓r54_46, ↓r54_49, ↓r54_50, ↓r54_51, ↓r54_52, ↓r54_55, ↓r54_56, ↓r54_57, ↓r54_60, ↓r54_61, ↓r54_64, ↓r54_65, ↓r54_66, ↓r54_70, ↓r54_71, ↓r54_74, ↓r54_75, ↓r54_76, ↓r54_79, ↓r54_80, ↓r54_82, ↓r54_83, ↓r54_86, ↓r54_89, ↓r54_90, ↓r54_91, ↓r54_92, ↓r54_93, ↓r54_94, ↓r54_97, ↓r54_98, ↓r54_101, ↓r54_102, ↓r54_103, ↓r54_104, ↓r54_105, ↓r54_106, ↓r54_107, ↓r54_110, ↓r54_113, ↓r54_114, ↓r54_117, ↓r54_118, ↓r54_119, ↓r54_122, ↓r54_123, ↓r54_124, ↓r54_125, ↓r54_128, ↓r54_130, ↓r54_131, ↓r54_132, ↓r54_133, ↓r54_134, ↓r54_135, ↓r54_137, ↓r54_140, ↓r54_141, ↓r54_142, ↓r54_143, ↓r54_146, ↓r54_147, ↓r54_148, ↓r54_151, zl_s1 hc, zs_s1 hc, zn_s1 hc, zl_s2 hc, zs_s2 hc, zn_s2 hc, zl_s3 hc, zs_s3 hc, zn_s3 hc, zl_s4 hc, zs_s4 hc, zn_s4 hc, zl_s5 hc, zs_s5 hc, zn_s5 hc, zl_s6 hc, zs_s6 hc, zn_s6 hc, zl_s7 hc, zs_s7 hc, zn_s7 hc, zc_s hc, true_and, b0, v4, Option.toList, List.cons_append, List.nil_append]
      refine c44 (d := d + 1) hc V2 hB (zTC_sc hc hsc12 hT) (fun h3 hsc3 => ?_)
      have hsc13 := sc_tr hsc12 hsc3
      have V3 := zV_sc hc hsc13 hV
      obtain ⟨d0, d1⟩ := sc_at hc hsc13
      simp only [↓r54_0, ↓r54_1, ↓r54_2, ↓r54_3, ↓r54_4, ↓r54_7, ↓r54_8, ↓r54_9, ↓r54_10, ↓r54_13, ↓r54_14, ↓r54_17, ↓r54_18, ↓r54_19, ↓r54_22, ↓r54_24, ↓r54_25, ↓r54_28, ↓r54_29, ↓r54_32, ↓r54_35, ↓r54_36, ↓r54_37, ↓r54_40, ↓r54_41, ↓r54_44, ↓r54_45, ↓r54_46, ↓r54_49, ↓r54_50, ↓r54_51, ↓r54_52, ↓r54_55, ↓r54_56, ↓r54_57, ↓r54_60, ↓r54_61, ↓r54_64, ↓r54_65, ↓r54_66, ↓r54_70, ↓r54_71, ↓r54_74, ↓r54_75, ↓r54_76, ↓r54_79, ↓r54_80, ↓r54_82, ↓r54_83, ↓r54_86, ↓r54_89, ↓r54_90, ↓r54_91, ↓r54_92, ↓r54_93, ↓r54_94, ↓r54_97, ↓r54_98, ↓r54_101, ↓r54_102, ↓r54_103, ↓r54_104, ↓r54_105, ↓r54_106, ↓r54_107, ↓r54_110, ↓r54_113, ↓r54_114, ↓r54_117, ↓r54_118, ↓r54_119, ↓r54_122, ↓r54_123, ↓r54_124, ↓r54_125, ↓r54_128, ↓r54_130, ↓r54_131, ↓r54_132, ↓r54_133, ↓r54_134, ↓r54_135, ↓r54_137, ↓r54_140, ↓r54_141, ↓r54_142, ↓r54_143, ↓r54_146, ↓r54_147, ↓r54_148, ↓r54_151, zl_s1 hc, zs_s1 hc, zn_s1 hc, zl_s2 hc, zs_s2 hc, zn_s2 hc, zl_s3 hc, zs_s3 hc, zn_s3 hc, zl_s4 hc, zs_s4 hc, zn_s4 hc, zl_s5 hc, zs_s5 hc, zn_s5 hc, zl_s6 hc, zs_s6 hc, zn_s6 hc, zl_s7 hc, zs_s7 hc, zn_s7 hc, zc_s hc, true_and, sPaid_add, Option.toList, List.cons_append, List.nil_append]
      generalize hab : sLoad τ s (h c 14) n = ab at hQ ⊢
      have V4 := zV_fld (v := zfr (sPaidF τ s ab) n 0 (s 4)) (Or.inr (Or.inr (Or.inr (Or.inr (Or.inl ⟨rfl, rfl⟩))))) V3
      have S4 := sq_tr (sq_sc hc hsc13) (sq_fld (c := c) (h := h3) (j := 9) (v := zfr (sPaidF τ s ab) n 0 (s 4)) (by omega))
      refine c57 hc V4 (by rw [zup_ap, if_neg (by omega)]; exact hn) h10 (fun h4 S5 V5 => ?_)
      simp only [↓r54_0, ↓r54_1, ↓r54_2, ↓r54_3, ↓r54_4, ↓r54_7, ↓r54_8, ↓r54_9, ↓r54_10, ↓r54_13, ↓r54_14, ↓r54_17, ↓r54_18, ↓r54_19, ↓r54_22, ↓r54_24, ↓r54_25, ↓r54_28, ↓r54_29, ↓r54_32, ↓r54_35, ↓r54_36, ↓r54_37, ↓r54_40, ↓r54_41, ↓r54_44, ↓r54_45, ↓r54_46, ↓r54_49, ↓r54_50, ↓r54_51, ↓r54_52, ↓r54_55, ↓r54_56, ↓r54_57, ↓r54_60, ↓r54_61, ↓r54_64, ↓r54_65, ↓r54_66, ↓r54_70, ↓r54_71, ↓r54_74, ↓r54_75, ↓r54_76, ↓r54_79, ↓r54_80, ↓r54_82, ↓r54_83, ↓r54_86, ↓r54_89, ↓r54_90, ↓r54_91, ↓r54_92, ↓r54_93, ↓r54_94, ↓r54_97, ↓r54_98, ↓r54_101, ↓r54_102, ↓r54_103, ↓r54_104, ↓r54_105, ↓r54_106, ↓r54_107, ↓r54_110, ↓r54_113, ↓r54_114, ↓r54_117, ↓r54_118, ↓r54_119, ↓r54_122, ↓r54_123, ↓r54_124, ↓r54_125, ↓r54_128, ↓r54_130, ↓r54_131, ↓r54_132, ↓r54_133, ↓r54_134, ↓r54_135, ↓r54_137, ↓r54_140, ↓r54_141, ↓r54_142, ↓r54_143, ↓r54_146, ↓r54_147, ↓r54_148, ↓r54_151, Option.toList, List.cons_append, List.nil_append]
      have f6 : upd s 4 (zfr (sPaidF τ s ab) n 0 (s 4)) 6 = s 6 := by rw [zup_ap, if_neg (by omega)]
      rw [f6] at V5
      refine c54_end (d := d + 3) hc V5 ?_ h10 (fun h5 S6 V6 => ?_)
      · rw [zup_ap, if_neg (by omega), cCross_lo _ _ _ _ _ (Or.inl (by omega)), zup_ap, if_neg (by omega)]; exact hn
      · refine hQ h5 (sq_tr (sq_tr S4 S5) S6) (zV_cong V6 (fun k hk => ?_))
        unfold sGo sCross
        have f3 : upd (zfo (cCrossF ab (1 - s 6)) n (upd s 4 (zfr (sPaidF τ s ab) n 0 (s 4)))) 6 (1 - s 6) 3 = upd s 4 (zfr (sPaidF τ s ab) n 0 (s 4)) 3 := by rw [zup_ap, if_neg (by omega), cCross_lo _ _ _ _ _ (Or.inl (by omega))]
        have f3' : upd (upd s 4 (zfr (sPaidF τ s ab) n 0 (s 4))) 6 (1 - s 6) 3 = upd s 4 (zfr (sPaidF τ s ab) n 0 (s 4)) 3 := by rw [zup_ap, if_neg (by omega)]
        rw [f3, f3']
        have hfun : zfo (cWaitF ab (kMinu (s 7) (s 9))) n (upd (upd (zfo (cCrossF ab (1 - s 6)) n (upd s 4 (zfr (sPaidF τ s ab) n 0 (s 4)))) 6 (1 - s 6)) 3 (upd s 4 (zfr (sPaidF τ s ab) n 0 (s 4)) 3 + kMinu (s 7) (s 9))) = zfo (sMoveF ab (kMinu (s 7) (s 9))) n (upd (upd (upd s 4 (zfr (sPaidF τ s ab) n 0 (s 4))) 6 (1 - s 6)) 3 (upd s 4 (zfr (sPaidF τ s ab) n 0 (s 4)) 3 + kMinu (s 7) (s 9))) := funext (fun k => cMove_eq ab (kMinu (s 7) (s 9)) (1 - s 6) (upd s 4 (zfr (sPaidF τ s ab) n 0 (s 4))) n h10 k)
        rw [hfun]
    · have g5 : sStay τ s n = 5 := sStay_5 g1 g2
      simp only [if_neg g2, ↓r54_0, ↓r54_1, ↓r54_2, ↓r54_3, ↓r54_4, ↓r54_7, ↓r54_8, ↓r54_9, ↓r54_10, ↓r54_13, ↓r54_14, ↓r54_17, ↓r54_18, ↓r54_19, ↓r54_22, ↓r54_24, ↓r54_25, ↓r54_28, ↓r54_29, ↓r54_32, ↓r54_35, ↓r54_36, ↓r54_37, ↓r54_40, ↓r54_41, ↓r54_44, ↓r54_45, ↓r54_46, ↓r54_49, ↓r54_50, ↓r54_51, ↓r54_52, ↓r54_55, ↓r54_56, ↓r54_57, ↓r54_60, ↓r54_61, ↓r54_64, ↓r54_65, ↓r54_66, ↓r54_70, ↓r54_71, ↓r54_74, ↓r54_75, ↓r54_76, ↓r54_79, ↓r54_80, ↓r54_82, ↓r54_83, ↓r54_86, ↓r54_89, ↓r54_90, ↓r54_91, ↓r54_92, ↓r54_93, ↓r54_94, ↓r54_97, ↓r54_98, ↓r54_101, ↓r54_102, ↓r54_103, ↓r54_104, ↓r54_105, ↓r54_106, ↓r54_107, ↓r54_110, ↓r54_113, ↓r54_114, ↓r54_117, ↓r54_118, ↓r54_119, ↓r54_122, ↓r54_123, ↓r54_124, ↓r54_125, ↓r54_128, ↓r54_130, ↓r54_131, ↓r54_132, ↓r54_133, ↓r54_134, ↓r54_135, ↓r54_137, ↓r54_140, ↓r54_141, ↓r54_142, ↓r54_143, ↓r54_146, ↓r54_147, ↓r54_148, ↓r54_151, Option.toList, List.cons_append, List.nil_append] at hQ ⊢
      rw [if_neg (by decide)]
      rw [g5] at hQ
      refine c54_end (d := d + 3) hc V1 hn h10 (fun h5 S6 V6 => ?_)
      refine hQ h5 (sq_tr (sq_sc hc hsc) S6) ?_
      rw [cStay_eq _ _ _ h10] at V6
      exact V6
  · have g5 : sStay τ s n = 10 := by unfold sStay; rw [if_neg g1]
    have g2 : ¬ sStay τ s n = 0 := by rw [g5]; decide
    simp only [if_neg g1, if_neg g2] at hQ ⊢
    rw [g5] at hQ
    refine c54_end (d := d + 3) hc V1 hn h10 (fun h5 S6 V6 => ?_)
    refine hQ h5 (sq_tr (sq_sc hc hsc) S6) ?_
    rw [cStay_eq _ _ _ h10] at V6
    exact V6
end
