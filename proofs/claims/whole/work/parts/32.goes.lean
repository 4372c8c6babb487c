/-! a step of the reference -/
def sStay (τ : zTau) (s : Nat → Int32) (n : Nat) : Int32 := if pPull (τ 1) (s 9) 0 (s 7) ≤ s 10 then (if sCnt s (s 6) n < s 11 then (if sDoc s (s 6) n = true then 0 else if sCnt s (s 6) n ≤ 0 then (if sCnt s (1 - s 6) n = 0 then 5 else 0) else 5) else 0) else 10
def zfr {σ : Type} (g : Nat → σ → σ) : Nat → Nat → σ → σ
  | 0, _, s => s
  | f + 1, i, s => zfr g f (i + 1) (g i s)
def sPay (τ : zTau) (s : Nat → Int32) (i : Nat) : Int32 := kPays (s (12 + 5 * i + 0)) (pToll (τ 0) (s (12 + 5 * i + 1)) (s 9) (s (12 + 5 * i + 3)))
def sPaidF (τ : zTau) (s : Nat → Int32) (ab : Int32) (i : Nat) (a : Int32) : Int32 := if bitOf ab i = 1 then a + sPay τ s i else a
def sMoveF (ab time : Int32) (i : Nat) (r : Nat → Int32) : Nat → Int32 := if bitOf ab i = 1 then upd (upd (upd r (12 + 5 * i + 2) (r 6)) (12 + 5 * i + 3) 0) (12 + 5 * i + 4) (r (12 + 5 * i + 4) + 1) else upd r (12 + 5 * i + 3) (r (12 + 5 * i + 3) + time)
/-- behind the crossing, or not -/
def sCross (τ : zTau) (s : Nat → Int32) (ab : Int32) (n : Nat) : Nat → Int32 := upd (upd s 4 (zfr (sPaidF τ s ab) n 0 (s 4))) 6 (1 - s 6)
def sEnd (r : Nat → Int32) : Nat → Int32 := upd (upd (upd r 5 (kNext (r 5))) 9 (clI 0 99 (r 9 + (kDraw (r 5) - kDraw (r 5) / 7 * 7) - 3))) 2 (r 2 + 1)
def sGo (ab time : Int32) (n : Nat) (r : Nat → Int32) : Nat → Int32 := sEnd (zfo (sMoveF ab time) n (upd r 3 (r 3 + time)))
def stepM (τ : zTau) (u : Int32) (n : Nat) (s : Nat → Int32) : Nat → Int32 :=
  if sStay τ s n = 0 then sGo (sLoad τ s u n) (kMinu (s 7) (s 9)) n (sCross τ s (sLoad τ s u n) n) else sGo 0 (sStay τ s n) n s
/-- but for the row of the reference and its scratch -/
def sr (h h' : zH) : Prop := ∀ c, c ≠ 61 → c ≠ 75 → c ≠ 76 → h' c = h c
theorem sr_of {h h' : zH} (e : sm h h') : sr h h' := fun c _ q1 q2 => e c q1 q2
theorem sr_tr {h h1 h2 : zH} (a : sr h h1) (b : sr h1 h2) : sr h h2 := fun c x y z => (b c x y z).trans (a c x y z)
theorem sr_rf (h : zH) : sr h h := fun _ _ _ _ => rfl
theorem zTR_cong {s s' : Nat → Int32} {τ : zTau} (e1 : s' 1 = s 1) (e2 : ∀ k, 62 ≤ k → s' k = s k) (hT : zTR s τ) : zTR s' τ := by
  obtain ⟨n, h1, h2, h3⟩ := hT
  refine ⟨n, h1, by rw [e1]; exact h2, fun key hk => ?_⟩
  have el : lastT s' (nI key) n = lastT s (nI key) n := by
    unfold lastT
    exact zfo_cong (fun i a _ => by simp only [e2 (62 + 200 * i) (by omega)]) _
  rw [el]
  rcases h3 key hk with h | ⟨t, m, w, g1, g2, g3, g4, g5, g6, g7⟩
  · exact Or.inl h
  · exact Or.inr ⟨t, m, w, g1, g2, g3, by rw [e2 _ (by omega)]; exact g4, fun i hi => by rw [e2 _ (by omega), e2 _ (by omega)]; exact g5 i hi, g6, g7⟩
section
variable {d : Nat} {Q : Option Value → zH → Prop} {h : zH} {x x0 x1 x2 x3 x4 : Int32} {c n k : Nat} {τ : zTau} {s : Nat → Int32}
theorem c143 (hn : h 61 0 = nI n) (h10 : n ≤ 10) (hT : zTR (h 61) τ) (hQ : ∀ h', sm h h' → Q (some (.int (sStay τ (h 61) n))) h') : zM (d + 4) 143 [.ref 60] h Q := by
  obtain ⟨y1, y2, y3, y4, y5, y6, y7⟩ := zok6
  obtain ⟨w1, w2, w3, w4, w5, w6, w7⟩ := zix6
  rw [m143]
  simp only [↓r143_0, ↓r143_1, ↓r143_2, ↓r143_5, ↓r143_6, ↓r143_9, ↓r143_11, ↓r143_12, ↓r143_15, ↓r143_17, ↓r143_18, ↓r143_19, ↓r143_20, ↓r143_23, ↓r143_25, ↓r143_26, ↓r143_29, ↓r143_30, ↓r143_31, ↓r143_32, ↓r143_35, ↓r143_37, ↓r143_38, ↓r143_41, ↓r143_42, ↓r143_43, ↓r143_46, ↓r143_48, ↓r143_49, ↓r143_52, ↓r143_55, ↓r143_56, ↓r143_57, ↓r143_58, ↓r143_61, ↓r143_62, ↓r143_63, ↓r143_64, ↓r143_67, ↓r143_69, ↓r143_70, ↓r143_71, ↓r143_74, ↓r143_77, ↓r143_78, ↓r143_81, ↓r143_82]
  refine d134 hT (fun h' e => ?_)
  have e61 : h' 61 = h 61 := e _ (by omega) (by omega)
  have hn' : h' 61 0 = nI n := by rw [e61]; exact hn
  have c141' := fun (z : Int32) (Q' : Option Value → zH → Prop) => c141 (d := d + 1) (Q := Q') (h := h') (x0 := z) hn' h10
  have c142' := fun (z : Int32) (Q' : Option Value → zH → Prop) => c142 (d := d + 1) (Q := Q') (h := h') (x0 := z) hn' h10
  have hQ' := hQ h' e
  unfold sStay at hQ'
  simp only [↓r143_0, ↓r143_1, ↓r143_2, ↓r143_5, ↓r143_6, ↓r143_9, ↓r143_11, ↓r143_12, ↓r143_15, ↓r143_17, ↓r143_18, ↓r143_19, ↓r143_20, ↓r143_23, ↓r143_25, ↓r143_26, ↓r143_29, ↓r143_30, ↓r143_31, ↓r143_32, ↓r143_35, ↓r143_37, ↓r143_38, ↓r143_41, ↓r143_42, ↓r143_43, ↓r143_46, ↓r143_48, ↓r143_49, ↓r143_52, ↓r143_55, ↓r143_56, ↓r143_57, ↓r143_58, ↓r143_61, ↓r143_62, ↓r143_63, ↓r143_64, ↓r143_67, ↓r143_69, ↓r143_70, ↓r143_71, ↓r143_74, ↓r143_77, ↓r143_78, ↓r143_81, ↓r143_82, zl_61, y1, y3, y4, w1, w3, w4, true_and, e61, c141', c142', Option.toList, List.cons_append, List.nil_append]
  by_cases g1 : pPull (τ 1) (h 61 9) 0 (h 61 7) ≤ h 61 10
  · simp only [if_pos g1] at hQ' ⊢
    by_cases g2 : sCnt (h 61) (h 61 6) n < h 61 11
    · simp only [if_pos g2] at hQ' ⊢
      by_cases g3 : sDoc (h 61) (h 61 6) n = true
      · simp only [if_pos g3] at hQ' ⊢
        rw [if_neg (by decide)]
        exact hQ'
      · simp only [if_neg g3, if_true] at hQ' ⊢
        by_cases g4 : sCnt (h 61) (h 61 6) n ≤ 0
        · simp only [if_pos g4] at hQ' ⊢
          by_cases g5 : sCnt (h 61) (1 - h 61 6) n = 0
          · simp only [if_pos g5] at hQ' ⊢
            exact hQ'
          · simp only [if_neg g5] at hQ' ⊢
            exact hQ'
        · simp only [if_neg g4] at hQ' ⊢
          exact hQ'
    · simp only [if_neg g2] at hQ' ⊢
      exact hQ'
  · simp only [if_neg g1] at hQ' ⊢
    exact hQ'
/-- the tolls' loop -/
theorem c144_tolls {time ab : Int32} (hn : h 61 0 = nI n) (h10 : n ≤ 10) (hT : zTR (h 61) τ) : ∀ (f i : Nat) (t : Int32) (h' : zH), i + f = n → sr h h' → h' 61 = upd (h 61) 4 t → (∀ (h'' : zH), sr h h'' → h'' 61 = upd (h 61) 4 (zfr (sPaidF τ (h 61) ab) f i t) → zR (d + 3) 144 Q 66 [some (.ref 60), some (.int time), some (.int ab), some (.int (nI n))] [] h'') → zR (d + 3) 144 Q 23 [some (.ref 60), some (.int time), some (.int ab), some (.int (nI i))] [] h' := by
  obtain ⟨y1, y2, y3, y4, y5, y6, y7⟩ := zok6
  obtain ⟨w1, w2, w3, w4, w5, w6, w7⟩ := zix6
  intro f
  induction f with
  | zero =>
    intro i t h' hi e e61 hK
    have hin : i = n := by omega
    subst hin
    have e0 : h' 61 0 = nI i := by rw [e61]; exact hn
    rw [r144_23]
    simp only [↓r144_0, ↓r144_1, ↓r144_4, ↓r144_5, ↓r144_6, ↓r144_7, ↓r144_8, ↓r144_11, ↓r144_12, ↓r144_15, ↓r144_16, ↓r144_17, ↓r144_20, ↓r144_21, ↓r144_22, ↓r144_24, ↓r144_25, ↓r144_28, ↓r144_29, ↓r144_30, ↓r144_33, ↓r144_34, ↓r144_37, ↓r144_38, ↓r144_39, ↓r144_40, ↓r144_41, ↓r144_42, ↓r144_43, ↓r144_44, ↓r144_45, ↓r144_46, ↓r144_49, ↓r144_50, ↓r144_51, ↓r144_54, ↓r144_57, ↓r144_58, ↓r144_59, ↓r144_60, ↓r144_63, ↓r144_67, ↓r144_70, ↓r144_72, ↓r144_73, ↓r144_74, ↓r144_77, ↓r144_79, ↓r144_80, ↓r144_81, ↓r144_82, ↓r144_83, ↓r144_86, ↓r144_87, ↓r144_88, ↓r144_89, ↓r144_90, ↓r144_91, ↓r144_92, ↓r144_93, ↓r144_94, ↓r144_95, ↓r144_96, ↓r144_99, ↓r144_100, ↓r144_101, ↓r144_104, ↓r144_105, ↓r144_106, ↓r144_107, ↓r144_108, ↓r144_109, ↓r144_110, ↓r144_113, ↓r144_114, ↓r144_115, ↓r144_116, ↓r144_117, ↓r144_120, ↓r144_122, ↓r144_123, ↓r144_126, ↓r144_127, ↓r144_128, ↓r144_129, ↓r144_130, ↓r144_133, ↓r144_134, ↓r144_135, ↓r144_136, ↓r144_137, ↓r144_138, ↓r144_139, ↓r144_142, ↓r144_143, ↓r144_144, ↓r144_147, ↓r144_150, ↓r144_151, ↓r144_152, ↓r144_153, ↓r144_154, ↓r144_155, ↓r144_156, ↓r144_159, ↓r144_160, ↓r144_161, ↓r144_164, ↓r144_167, ↓r144_170, ↓r144_171, ↓r144_174, ↓r144_176, ↓r144_177, ↓r144_180, ↓r144_182, ↓r144_183, ↓r144_184, ↓r144_187, ↓r144_189, ↓r144_190, ↓r144_191, ↓r144_192, ↓r144_193, ↓r144_194, ↓r144_196, ↓r144_199, ↓r144_200, ↓r144_201, ↓r144_204, ↓r144_205, ↓r144_206, ↓r144_207, ↓r144_208, ↓r144_209, ↓r144_210, zl_61, zok0, zix0, true_and, e0, nI_nlt (Nat.le_refl i) (by omega), if_false]
    exact hK h' e e61
  | succ f ih =>
    intro i t h' hi e e61 hK
    have e0 : h' 61 0 = nI n := by rw [e61]; exact hn
    have et : h' 61 4 = t := by rw [e61]; exact zu_same
    have epay : ∀ j, j < 10 → sPay τ (h' 61) j = sPay τ (h 61) j := by
      intro j hj
      unfold sPay
      rw [e61]
      simp only [zup_ap]
      rw [if_neg (by omega), if_neg (by omega), if_neg (by omega), if_neg (by omega)]
    rw [r144_23]
    simp only [↓r144_0, ↓r144_1, ↓r144_4, ↓r144_5, ↓r144_6, ↓r144_7, ↓r144_8, ↓r144_11, ↓r144_12, ↓r144_15, ↓r144_16, ↓r144_17, ↓r144_20, ↓r144_21, ↓r144_22, ↓r144_24, ↓r144_25, ↓r144_28, ↓r144_29, ↓r144_30, ↓r144_33, ↓r144_34, ↓r144_37, ↓r144_38, ↓r144_39, ↓r144_40, ↓r144_41, ↓r144_42, ↓r144_43, ↓r144_44, ↓r144_45, ↓r144_46, ↓r144_49, ↓r144_50, ↓r144_51, ↓r144_54, ↓r144_57, ↓r144_58, ↓r144_59, ↓r144_60, ↓r144_63, ↓r144_66, ↓r144_67, ↓r144_70, ↓r144_72, ↓r144_73, ↓r144_74, ↓r144_77, ↓r144_79, ↓r144_80, ↓r144_81, ↓r144_82, ↓r144_83, ↓r144_86, ↓r144_87, ↓r144_88, ↓r144_89, ↓r144_90, ↓r144_91, ↓r144_92, ↓r144_93, ↓r144_94, ↓r144_95, ↓r144_96, ↓r144_99, ↓r144_100, ↓r144_101, ↓r144_104, ↓r144_105, ↓r144_106, ↓r144_107, ↓r144_108, ↓r144_109, ↓r144_110, ↓r144_113, ↓r144_114, ↓r144_115, ↓r144_116, ↓r144_117, ↓r144_120, ↓r144_122, ↓r144_123, ↓r144_126, ↓r144_127, ↓r144_128, ↓r144_129, ↓r144_130, ↓r144_133, ↓r144_134, ↓r144_135, ↓r144_136, ↓r144_137, ↓r144_138, ↓r144_139, ↓r144_142, ↓r144_143, ↓r144_144, ↓r144_147, ↓r144_150, ↓r144_151, ↓r144_152, ↓r144_153, ↓r144_154, ↓r144_155, ↓r144_156, ↓r144_159, ↓r144_160, ↓r144_161, ↓r144_164, ↓r144_167, ↓r144_170, ↓r144_171, ↓r144_174, ↓r144_176, ↓r144_177, ↓r144_180, ↓r144_182, ↓r144_183, ↓r144_184, ↓r144_187, ↓r144_189, ↓r144_190, ↓r144_191, ↓r144_192, ↓r144_193, ↓r144_194, ↓r144_196, ↓r144_199, ↓r144_200, ↓r144_201, ↓r144_204, ↓r144_205, ↓r144_206, ↓r144_207, ↓r144_208, ↓r144_209, ↓r144_210, zl_61, zs_61, zok0, zix0, y7, w7, true_and, e0, et, nI_lt (by omega : i < n) (by omega : n < 2 ^ 31), if_true, Option.toList, List.cons_append, List.nil_append]
    by_cases g : bitOf ab i = 1
    · have g' : ab >>> (nI i &&& 31) &&& 1 = 1 := g
      simp only [if_pos g']
      refine d120 e0 h10 (by omega) (zTR_cong (by rw [e61]; rfl) (fun k hk => by rw [e61, zup_ap, if_neg (by omega)]) hT) (fun h2 e2 => ?_)
      have e2b : h2 61 = h' 61 := e2 _ (by omega) (by omega)
      have hp := epay i (by omega)
      unfold sPay at hp
      simp only [↓r144_0, ↓r144_1, ↓r144_4, ↓r144_5, ↓r144_6, ↓r144_7, ↓r144_8, ↓r144_11, ↓r144_12, ↓r144_15, ↓r144_16, ↓r144_17, ↓r144_20, ↓r144_21, ↓r144_22, ↓r144_24, ↓r144_25, ↓r144_28, ↓r144_29, ↓r144_30, ↓r144_33, ↓r144_34, ↓r144_37, ↓r144_38, ↓r144_39, ↓r144_40, ↓r144_41, ↓r144_42, ↓r144_43, ↓r144_44, ↓r144_45, ↓r144_46, ↓r144_49, ↓r144_50, ↓r144_51, ↓r144_54, ↓r144_57, ↓r144_58, ↓r144_59, ↓r144_60, ↓r144_63, ↓r144_66, ↓r144_67, ↓r144_70, ↓r144_72, ↓r144_73, ↓r144_74, ↓r144_77, ↓r144_79, ↓r144_80, ↓r144_81, ↓r144_82, ↓r144_83, ↓r144_86, ↓r144_87, ↓r144_88, ↓r144_89, ↓r144_90, ↓r144_91, ↓r144_92, ↓r144_93, ↓r144_94, ↓r144_95, ↓r144_96, ↓r144_99, ↓r144_100, ↓r144_101, ↓r144_104, ↓r144_105, ↓r144_106, ↓r144_107, ↓r144_108, ↓r144_109, ↓r144_110, ↓r144_113, ↓r144_114, ↓r144_115, ↓r144_116, ↓r144_117, ↓r144_120, ↓r144_122, ↓r144_123, ↓r144_126, ↓r144_127, ↓r144_128, ↓r144_129, ↓r144_130, ↓r144_133, ↓r144_134, ↓r144_135, ↓r144_136, ↓r144_137, ↓r144_138, ↓r144_139, ↓r144_142, ↓r144_143, ↓r144_144, ↓r144_147, ↓r144_150, ↓r144_151, ↓r144_152, ↓r144_153, ↓r144_154, ↓r144_155, ↓r144_156, ↓r144_159, ↓r144_160, ↓r144_161, ↓r144_164, ↓r144_167, ↓r144_170, ↓r144_171, ↓r144_174, ↓r144_176, ↓r144_177, ↓r144_180, ↓r144_182, ↓r144_183, ↓r144_184, ↓r144_187, ↓r144_189, ↓r144_190, ↓r144_191, ↓r144_192, ↓r144_193, ↓r144_194, ↓r144_196, ↓r144_199, ↓r144_200, ↓r144_201, ↓r144_204, ↓r144_205, ↓r144_206, ↓r144_207, ↓r144_208, ↓r144_209, ↓r144_210, zl_61, zs_61, y7, w7, true_and, e2b, hp, nI_1, Option.toList, List.cons_append, List.nil_append]
      refine ih (i + 1) (t + sPay τ (h 61) i) _ (by omega) ?_ ?_ ?_
      · intro c q1 q2 q3
        rw [zhr_ne _ _ q1, e2 c q2 q3]
        exact e c q1 q2 q3
      · rw [zhr_same, e61]
        funext k
        simp only [zup_ap]
        split <;> rfl
      · intro h'' a1 a2
        refine hK h'' a1 ?_
        rw [a2]
        show _ = upd (h 61) 4 (zfr (sPaidF τ (h 61) ab) f (i + 1) (sPaidF τ (h 61) ab i t))
        unfold sPaidF
        rw [if_pos g]
    · have g' : ¬ ab >>> (nI i &&& 31) &&& 1 = 1 := g
      simp only [if_neg g', nI_1, ↓r144_0, ↓r144_1, ↓r144_4, ↓r144_5, ↓r144_6, ↓r144_7, ↓r144_8, ↓r144_11, ↓r144_12, ↓r144_15, ↓r144_16, ↓r144_17, ↓r144_20, ↓r144_21, ↓r144_22, ↓r144_24, ↓r144_25, ↓r144_28, ↓r144_29, ↓r144_30, ↓r144_33, ↓r144_34, ↓r144_37, ↓r144_38, ↓r144_39, ↓r144_40, ↓r144_41, ↓r144_42, ↓r144_43, ↓r144_44, ↓r144_45, ↓r144_46, ↓r144_49, ↓r144_50, ↓r144_51, ↓r144_54, ↓r144_57, ↓r144_58, ↓r144_59, ↓r144_60, ↓r144_63, ↓r144_66, ↓r144_67, ↓r144_70, ↓r144_72, ↓r144_73, ↓r144_74, ↓r144_77, ↓r144_79, ↓r144_80, ↓r144_81, ↓r144_82, ↓r144_83, ↓r144_86, ↓r144_87, ↓r144_88, ↓r144_89, ↓r144_90, ↓r144_91, ↓r144_92, ↓r144_93, ↓r144_94, ↓r144_95, ↓r144_96, ↓r144_99, ↓r144_100, ↓r144_101, ↓r144_104, ↓r144_105, ↓r144_106, ↓r144_107, ↓r144_108, ↓r144_109, ↓r144_110, ↓r144_113, ↓r144_114, ↓r144_115, ↓r144_116, ↓r144_117, ↓r144_120, ↓r144_122, ↓r144_123, ↓r144_126, ↓r144_127, ↓r144_128, ↓r144_129, ↓r144_130, ↓r144_133, ↓r144_134, ↓r144_135, ↓r144_136, ↓r144_137, ↓r144_138, ↓r144_139, ↓r144_142, ↓r144_143, ↓r144_144, ↓r144_147, ↓r144_150, ↓r144_151, ↓r144_152, ↓r144_153, ↓r144_154, ↓r144_155, ↓r144_156, ↓r144_159, ↓r144_160, ↓r144_161, ↓r144_164, ↓r144_167, ↓r144_170, ↓r144_171, ↓r144_174, ↓r144_176, ↓r144_177, ↓r144_180, ↓r144_182, ↓r144_183, ↓r144_184, ↓r144_187, ↓r144_189, ↓r144_190, ↓r144_191, ↓r144_192, ↓r144_193, ↓r144_194, ↓r144_196, ↓r144_199, ↓r144_200, ↓r144_201, ↓r144_204, ↓r144_205, ↓r144_206, ↓r144_207, ↓r144_208, ↓r144_209, ↓r144_210, zs_61, y7, w7, true_and, Int32.add_zero]
      refine ih (i + 1) t _ (by omega) ?_ ?_ ?_
      · intro c q1 q2 q3
        rw [zhr_ne _ _ q1]
        exact e c q1 q2 q3
      · rw [zhr_same, e61]
        funext k
        simp only [zup_ap]
        split <;> rfl
      · intro h'' a1 a2
        refine hK h'' a1 ?_
        rw [a2]
        show _ = upd (h 61) 4 (zfr (sPaidF τ (h 61) ab) f (i + 1) (sPaidF τ (h 61) ab i t))
        unfold sPaidF
        rw [if_neg g]
/-- from minute-counting on -/
theorem c144_go {time ab : Int32} {o3 : Option Value} (hn : h 61 0 = nI n) (h10 : n ≤ 10) : zR (d + 3) 144 Q 82 [some (.ref 60), some (.int time), some (.int ab), o3] [] h = Q none (zhr h 61 (sGo ab time n (h 61))) := by
  obtain ⟨y1, y2, y3, y4, y5, y6, y7⟩ := zok6
  obtain ⟨w1, w2, w3, w4, w5, w6, w7⟩ := zix6
  obtain ⟨z1, z2, z3, z4, z5, z6, z7, z8⟩ := kN
  obtain ⟨v1, v2, v3, v4, v5, v6, v7, v8⟩ := kZ
  simp only [↓r144_0, ↓r144_1, ↓r144_4, ↓r144_5, ↓r144_6, ↓r144_7, ↓r144_8, ↓r144_11, ↓r144_12, ↓r144_15, ↓r144_16, ↓r144_17, ↓r144_20, ↓r144_21, ↓r144_22, ↓r144_23, ↓r144_24, ↓r144_25, ↓r144_28, ↓r144_29, ↓r144_30, ↓r144_33, ↓r144_34, ↓r144_37, ↓r144_38, ↓r144_39, ↓r144_40, ↓r144_41, ↓r144_42, ↓r144_43, ↓r144_44, ↓r144_45, ↓r144_46, ↓r144_49, ↓r144_50, ↓r144_51, ↓r144_54, ↓r144_57, ↓r144_58, ↓r144_59, ↓r144_60, ↓r144_63, ↓r144_66, ↓r144_67, ↓r144_70, ↓r144_72, ↓r144_73, ↓r144_74, ↓r144_77, ↓r144_79, ↓r144_80, ↓r144_81, ↓r144_82, ↓r144_83, ↓r144_86, ↓r144_87, ↓r144_88, ↓r144_89, ↓r144_90, ↓r144_91, ↓r144_92, ↓r144_93, ↓r144_95, ↓r144_96, ↓r144_99, ↓r144_100, ↓r144_101, ↓r144_104, ↓r144_105, ↓r144_106, ↓r144_107, ↓r144_108, ↓r144_109, ↓r144_110, ↓r144_113, ↓r144_114, ↓r144_115, ↓r144_116, ↓r144_117, ↓r144_120, ↓r144_122, ↓r144_123, ↓r144_126, ↓r144_127, ↓r144_128, ↓r144_129, ↓r144_130, ↓r144_133, ↓r144_134, ↓r144_135, ↓r144_136, ↓r144_137, ↓r144_138, ↓r144_139, ↓r144_142, ↓r144_143, ↓r144_144, ↓r144_147, ↓r144_150, ↓r144_151, ↓r144_152, ↓r144_153, ↓r144_154, ↓r144_155, ↓r144_156, ↓r144_159, ↓r144_160, ↓r144_161, ↓r144_164, ↓r144_167, ↓r144_170, ↓r144_171, ↓r144_174, ↓r144_176, ↓r144_177, ↓r144_180, ↓r144_182, ↓r144_183, ↓r144_184, ↓r144_187, ↓r144_189, ↓r144_190, ↓r144_191, ↓r144_192, ↓r144_193, ↓r144_194, ↓r144_196, ↓r144_199, ↓r144_200, ↓r144_201, ↓r144_204, ↓r144_205, ↓r144_206, ↓r144_207, ↓r144_208, ↓r144_209, ↓r144_210, zl_61, zs_61, y6, w6, true_and]
  have hs : ∀ (i : Nat) (r : Nat → Int32), i < n → (r 0 = nI n) → (zR (d + 3) 144 Q 94 [some (.ref 60), some (.int time), some (.int ab), some (.int (nI i))] [] (zhr h 61 r) = zR (d + 3) 144 Q 94 [some (.ref 60), some (.int time), some (.int ab), some (.int (nI (i + 1)))] [] (zhr h 61 (sMoveF ab time i r))) ∧ sMoveF ab time i r 0 = nI n := by
    intro i r hi hr
    constructor
    · rw [r144_94]
      simp only [↓r144_0, ↓r144_1, ↓r144_4, ↓r144_5, ↓r144_6, ↓r144_7, ↓r144_8, ↓r144_11, ↓r144_12, ↓r144_15, ↓r144_16, ↓r144_17, ↓r144_20, ↓r144_21, ↓r144_22, ↓r144_23, ↓r144_24, ↓r144_25, ↓r144_28, ↓r144_29, ↓r144_30, ↓r144_33, ↓r144_34, ↓r144_37, ↓r144_38, ↓r144_39, ↓r144_40, ↓r144_41, ↓r144_42, ↓r144_43, ↓r144_44, ↓r144_45, ↓r144_46, ↓r144_49, ↓r144_50, ↓r144_51, ↓r144_54, ↓r144_57, ↓r144_58, ↓r144_59, ↓r144_60, ↓r144_63, ↓r144_66, ↓r144_67, ↓r144_70, ↓r144_72, ↓r144_73, ↓r144_74, ↓r144_77, ↓r144_79, ↓r144_80, ↓r144_81, ↓r144_82, ↓r144_83, ↓r144_86, ↓r144_87, ↓r144_88, ↓r144_89, ↓r144_90, ↓r144_91, ↓r144_92, ↓r144_93, ↓r144_95, ↓r144_96, ↓r144_99, ↓r144_100, ↓r144_101, ↓r144_104, ↓r144_105, ↓r144_106, ↓r144_107, ↓r144_108, ↓r144_109, ↓r144_110, ↓r144_113, ↓r144_114, ↓r144_115, ↓r144_116, ↓r144_117, ↓r144_120, ↓r144_122, ↓r144_123, ↓r144_126, ↓r144_127, ↓r144_128, ↓r144_129, ↓r144_130, ↓r144_133, ↓r144_134, ↓r144_135, ↓r144_136, ↓r144_137, ↓r144_138, ↓r144_139, ↓r144_142, ↓r144_143, ↓r144_144, ↓r144_147, ↓r144_150, ↓r144_151, ↓r144_152, ↓r144_153, ↓r144_154, ↓r144_155, ↓r144_156, ↓r144_159, ↓r144_160, ↓r144_161, ↓r144_164, ↓r144_167, ↓r144_170, ↓r144_171, ↓r144_174, ↓r144_176, ↓r144_177, ↓r144_180, ↓r144_182, ↓r144_183, ↓r144_184, ↓r144_187, ↓r144_189, ↓r144_190, ↓r144_191, ↓r144_192, ↓r144_193, ↓r144_194, ↓r144_196, ↓r144_199, ↓r144_200, ↓r144_201, ↓r144_204, ↓r144_205, ↓r144_206, ↓r144_207, ↓r144_208, ↓r144_209, ↓r144_210, zl_61, zs_61, zok0, zix0, y1, w1, true_and, zhr_same, hr, nI_lt hi (by omega : n < 2 ^ 31), if_true, zhr_zhr, c114_2 (by omega : i < 10), c114_3 (by omega : i < 10), c114_4 (by omega : i < 10), c113_3 (by omega : i < 10), c113_4 (by omega : i < 10), nI_1, Option.toList, List.cons_append, List.nil_append]
      unfold sMoveF
      by_cases g : bitOf ab i = 1
      · have g' : ab >>> (nI i &&& 31) &&& 1 = 1 := g
        simp only [if_pos g', if_pos g]
        congr 3
        simp [zup_ap]
      · have g' : ¬ ab >>> (nI i &&& 31) &&& 1 = 1 := g
        simp only [if_neg g', if_neg g]
    · unfold sMoveF
      split <;> simp [zup_ap, hr]
  have := zloopI (fun i (r : Nat → Int32) => zR (d + 3) 144 Q 94 [some (.ref 60), some (.int time), some (.int ab), some (.int (nI i))] [] (zhr h 61 r)) (fun _ r => r 0 = nI n) (fun i r => sMoveF ab time i r) n hs (upd (h 61) 3 (h 61 3 + time)) (by rw [zup_ap, if_neg (by omega)]; exact hn)
  obtain ⟨hW, hI⟩ := this
  simp only [nI_0] at hW
  rw [hW, r144_94]
  simp only [↓r144_0, ↓r144_1, ↓r144_4, ↓r144_5, ↓r144_6, ↓r144_7, ↓r144_8, ↓r144_11, ↓r144_12, ↓r144_15, ↓r144_16, ↓r144_17, ↓r144_20, ↓r144_21, ↓r144_22, ↓r144_23, ↓r144_24, ↓r144_25, ↓r144_28, ↓r144_29, ↓r144_30, ↓r144_33, ↓r144_34, ↓r144_37, ↓r144_38, ↓r144_39, ↓r144_40, ↓r144_41, ↓r144_42, ↓r144_43, ↓r144_44, ↓r144_45, ↓r144_46, ↓r144_49, ↓r144_50, ↓r144_51, ↓r144_54, ↓r144_57, ↓r144_58, ↓r144_59, ↓r144_60, ↓r144_63, ↓r144_66, ↓r144_67, ↓r144_70, ↓r144_72, ↓r144_73, ↓r144_74, ↓r144_77, ↓r144_79, ↓r144_80, ↓r144_81, ↓r144_82, ↓r144_83, ↓r144_86, ↓r144_87, ↓r144_88, ↓r144_89, ↓r144_90, ↓r144_91, ↓r144_92, ↓r144_93, ↓r144_95, ↓r144_96, ↓r144_99, ↓r144_100, ↓r144_101, ↓r144_104, ↓r144_105, ↓r144_106, ↓r144_107, ↓r144_108, ↓r144_109, ↓r144_110, ↓r144_113, ↓r144_114, ↓r144_115, ↓r144_116, ↓r144_117, ↓r144_120, ↓r144_122, ↓r144_123, ↓r144_126, ↓r144_127, ↓r144_128, ↓r144_129, ↓r144_130, ↓r144_133, ↓r144_134, ↓r144_135, ↓r144_136, ↓r144_137, ↓r144_138, ↓r144_139, ↓r144_142, ↓r144_143, ↓r144_144, ↓r144_147, ↓r144_150, ↓r144_151, ↓r144_152, ↓r144_153, ↓r144_154, ↓r144_155, ↓r144_156, ↓r144_159, ↓r144_160, ↓r144_161, ↓r144_164, ↓r144_167, ↓r144_170, ↓r144_171, ↓r144_174, ↓r144_176, ↓r144_177, ↓r144_180, ↓r144_182, ↓r144_183, ↓r144_184, ↓r144_187, ↓r144_189, ↓r144_190, ↓r144_191, ↓r144_192, ↓r144_193, ↓r144_194, ↓r144_196, ↓r144_199, ↓r144_200, ↓r144_201, ↓r144_204, ↓r144_205, ↓r144_206, ↓r144_207, ↓r144_208, ↓r144_209, ↓r144_210, zl_61, zs_61, zok0, zix0, z7, v7, y5, w5, true_and, zhr_same, hI, nI_nlt (Nat.le_refl n) (by omega), if_false, zhr_zhr, c117, c108c, Option.toList, List.cons_append, List.nil_append]
  trace_state
  sorry
end
