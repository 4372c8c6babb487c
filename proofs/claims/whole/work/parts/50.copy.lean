/-! sheets: copy -/
section
variable {d : Nat} {x0 x1 x2 x3 x4 v x z a : Int32} {h h' : zH} {n m N n' m' k w j f b c t i : Nat} {s row row' : Nat → Int32} {Q : Option Value → zH → Prop}
theorem lcmpS {a c z : Nat} (ha : a < 2 ^ 31) (hc : c < 2 ^ 31) (hz : z < 2 ^ 31) : (lg_cmp ((nI a).toInt64 + (nI c).toInt64) (nI z).toInt64 ≤ 0) ↔ (a + c ≤ z) := by
  have e : ((nI a).toInt64 + (nI c).toInt64) = lN (a + c) := by rw [nI_l ha, nI_l hc, lN_add]
  have e1 : (lN (a + c)).toInt = ((a + c : Nat) : Int) := lg_ofNat_toInt (by omega)
  rw [e, nI_l hz, zlc]
  by_cases g : a + c ≤ z
  · have g1 : ¬ lN z < lN (a + c) := by rw [Int64.lt_iff_toInt_lt, lN_toInt hz, e1]; omega
    rw [if_neg g1]
    by_cases g2 : lN (a + c) = lN z
    · rw [if_pos g2]; exact ⟨fun _ => g, fun _ => by decide⟩
    · rw [if_neg g2]; exact ⟨fun _ => g, fun _ => by decide⟩
  · have g1 : lN z < lN (a + c) := by rw [Int64.lt_iff_toInt_lt, lN_toInt hz, e1]; omega
    rw [if_pos g1]
    exact ⟨fun q => absurd q (by decide), fun q => absurd q g⟩
theorem hasPl {a c z : Nat} (ha : a < 2 ^ 31) (hc : c < 2 ^ 31) (hz : z ≤ 24) : ((0 ≤ nI c ∧ nI c ≤ nI z) ∧ (0 ≤ nI a ∧ nI a ≤ nI z - nI c)) ↔ a + c ≤ z := by
  constructor
  · rintro ⟨⟨_, h1⟩, ⟨_, h2⟩⟩
    rw [nI_leI hc (by omega)] at h1
    rw [nI_sub h1, nI_leI ha (by omega)] at h2
    omega
  · intro q
    have h1 : c ≤ z := by omega
    refine ⟨⟨nI_pos' hc, nI_le h1 (by omega)⟩, ⟨nI_pos' ha, ?_⟩⟩
    rw [nI_sub h1]
    exact nI_le (by omega) (by omega)
abbrev cpOk (p m z : Int32) : Prop := (0 ≤ m ∧ m ≤ z) ∧ (0 ≤ p ∧ p ≤ z - m)
theorem c34' (hc : zsh c) : zM (d + 2) 34 [.ref c, .int x0, .int x1] h Q = if (cpOk x0 x1 (h c 1)) then Q (some (.int 1)) h else Q (some (.int 0)) h := by
  rw [c34 hc]
  unfold cpOk
  by_cases g : 0 ≤ x1 ∧ x1 ≤ h c 1
  · by_cases g2 : 0 ≤ x0 ∧ x0 ≤ h c 1 - x1
    · rw [if_pos g, if_pos g2, if_pos ⟨g, g2⟩]
    · rw [if_pos g, if_neg g2, if_neg (fun q => g2 q.2)]
  · rw [if_neg g, if_neg (fun q => g q.1)]
theorem c189_57 (hk : k < 4) (hj : j < 4) {zf zt : Nat} (hzf : zf ≤ 24) (hzt : zt ≤ 24) (e1 : h 65 k = nI zf) (e2 : h 65 j = nI zt) {o6 : Option Value} : zR (d + 5) 189 Q 57 [some (.ref 60), some (.int (nI k)), some (.int x1), some (.int (nI j)), some (.int x3), some (.int x4), o6] [] h = if (cpOk x1 x4 (nI zf) ∧ cpOk x3 x4 (nI zt)) then zR (d + 5) 189 Q 110 [some (.ref 60), some (.int (nI k)), some (.int x1), some (.int (nI j)), some (.int x3), some (.int x4), o6] [] h else Q (some (.int (-1000000013))) h := by
  simp only [↓r189_0, ↓r189_1, ↓r189_4, ↓r189_7, ↓r189_8, ↓r189_11, ↓r189_14, ↓r189_16, ↓r189_17, ↓r189_18, ↓r189_21, ↓r189_22, ↓r189_23, ↓r189_26, ↓r189_27, ↓r189_30, ↓r189_31, ↓r189_32, ↓r189_35, ↓r189_38, ↓r189_39, ↓r189_40, ↓r189_43, ↓r189_44, ↓r189_45, ↓r189_46, ↓r189_49, ↓r189_50, ↓r189_51, ↓r189_54, ↓r189_56, ↓r189_57, ↓r189_58, ↓r189_61, ↓r189_63, ↓r189_66, ↓r189_68, ↓r189_71, ↓r189_72, ↓r189_73, ↓r189_75, ↓r189_76, ↓r189_77, ↓r189_78, ↓r189_81, ↓r189_82, ↓r189_83, ↓r189_84, ↓r189_85, ↓r189_88, ↓r189_90, ↓r189_91, ↓r189_93, ↓r189_94, ↓r189_95, ↓r189_96, ↓r189_99, ↓r189_100, ↓r189_101, ↓r189_102, ↓r189_103, ↓r189_106, ↓r189_109, ↓r189_111, ↓r189_113, ↓r189_115, ↓r189_117, ↓r189_120, ↓r189_121, ↓r189_124, ↓r189_126, ↓r189_127, ↓r189_130, ↓r189_132, ↓r189_133, ↓r189_134, ↓r189_135, ↓r189_136, ↓r189_138, ↓r189_139, ↓r189_140, ↓r189_141, ↓r189_144, ↓r189_147, ↓r189_148, ↓r189_150, ↓r189_152, ↓r189_154, ↓r189_157, ↓r189_158, ↓r189_161, ↓r189_163, ↓r189_164, ↓r189_165, ↓r189_167, ↓r189_168, ↓r189_170, ↓r189_171, ↓r189_172, ↓r189_175, ↓r189_177, ↓r189_178, ↓r189_179, ↓r189_182, ↓r189_185, ↓r189_187, zl_65, zok_nI hk (by omega), zok_nI hj (by omega), zix_nI (by omega : k < 2 ^ 31), zix_nI (by omega : j < 2 ^ 31), e1, e2, true_and]
  by_cases g1 : x1 < 0
  · have : ¬ (cpOk x1 x4 (nI zf) ∧ cpOk x3 x4 (nI zt)) := fun q => absurd g1 (Int32.not_lt.mpr q.1.2.1)
    rw [if_pos g1, if_neg this]
  · rw [if_neg g1]
    by_cases g3 : x3 < 0
    · have : ¬ (cpOk x1 x4 (nI zf) ∧ cpOk x3 x4 (nI zt)) := fun q => absurd g3 (Int32.not_lt.mpr q.2.2.1)
      rw [if_pos g3, if_neg this]
    · rw [if_neg g3]
      by_cases g4 : x4 < 0
      · have : ¬ (cpOk x1 x4 (nI zf) ∧ cpOk x3 x4 (nI zt)) := fun q => absurd g4 (Int32.not_lt.mpr q.1.1.1)
        rw [if_pos g4, if_neg this]
      · rw [if_neg g4]
        obtain ⟨a, ha, rfl⟩ := nI_of g1
        obtain ⟨b, hb, rfl⟩ := nI_of g3
        obtain ⟨c, hc, rfl⟩ := nI_of g4
        have k1 : cpOk (nI a) (nI c) (nI zf) ↔ a + c ≤ zf := hasPl ha hc hzf
        have k2 : cpOk (nI b) (nI c) (nI zt) ↔ b + c ≤ zt := hasPl hb hc hzt
        have w1 := lcmpS ha hc (by omega : zf < 2 ^ 31)
        have w2 := lcmpS hb hc (by omega : zt < 2 ^ 31)
        by_cases q1 : a + c ≤ zf
        · rw [if_pos (w1.mpr q1)]
          by_cases q2 : b + c ≤ zt
          · rw [if_pos (w2.mpr q2), if_pos ⟨k1.mpr q1, k2.mpr q2⟩]
          · rw [if_neg (fun q => q2 (w2.mp q)), if_neg (fun q => q2 (k2.mp q.2))]
        · rw [if_neg (fun q => q1 (w1.mp q)), if_neg (fun q => q1 (k1.mp q.1))]
theorem c189_go {p c : Nat} (hk : k < 4) (hj : j < 4) (hp : p + c ≤ 24) (hb : b + c ≤ 24) {o6 : Option Value} (hQ : ∀ r, Q (some (.int (nI c))) (zhr (zhr h 77 r) 66 (va_cpy (h 66) (h 66) (24 * k + p) (24 * j + b) c))) : zR (d + 5) 189 Q 110 [some (.ref 60), some (.int (nI k)), some (.int (nI p)), some (.int (nI j)), some (.int (nI b)), some (.int (nI c)), o6] [] h := by
  have l2 : ∀ (f i : Nat) (r g : Nat → Int32), i + f = c → (∀ l, l < c → r l = h 66 (24 * k + p + l)) → g = va_cpy (h 66) (h 66) (24 * k + p) (24 * j + b) i → zR (d + 5) 189 Q 150 [some (.ref 60), some (.int (nI k)), some (.int (nI p)), some (.int (nI j)), some (.int (nI b)), some (.int (nI c)), some (.int (nI i))] [] (zhr (zhr h 77 r) 66 g) := by
    intro f
    induction f with
    | zero =>
      intro i r g hi hr hg
      have hi' : i = c := by omega
      subst hi'
      subst hg
      rw [r189_150]
      simp only [↓r189_0, ↓r189_1, ↓r189_4, ↓r189_7, ↓r189_8, ↓r189_11, ↓r189_14, ↓r189_16, ↓r189_17, ↓r189_18, ↓r189_21, ↓r189_22, ↓r189_23, ↓r189_26, ↓r189_27, ↓r189_30, ↓r189_31, ↓r189_32, ↓r189_35, ↓r189_38, ↓r189_39, ↓r189_40, ↓r189_43, ↓r189_44, ↓r189_45, ↓r189_46, ↓r189_49, ↓r189_50, ↓r189_51, ↓r189_54, ↓r189_56, ↓r189_57, ↓r189_58, ↓r189_61, ↓r189_63, ↓r189_66, ↓r189_68, ↓r189_71, ↓r189_72, ↓r189_73, ↓r189_75, ↓r189_76, ↓r189_77, ↓r189_78, ↓r189_81, ↓r189_82, ↓r189_83, ↓r189_84, ↓r189_85, ↓r189_88, ↓r189_90, ↓r189_91, ↓r189_93, ↓r189_94, ↓r189_95, ↓r189_96, ↓r189_99, ↓r189_100, ↓r189_101, ↓r189_102, ↓r189_103, ↓r189_106, ↓r189_109, ↓r189_110, ↓r189_111, ↓r189_113, ↓r189_115, ↓r189_117, ↓r189_120, ↓r189_121, ↓r189_124, ↓r189_126, ↓r189_127, ↓r189_130, ↓r189_132, ↓r189_133, ↓r189_134, ↓r189_135, ↓r189_136, ↓r189_138, ↓r189_139, ↓r189_140, ↓r189_141, ↓r189_144, ↓r189_147, ↓r189_148, ↓r189_152, ↓r189_154, ↓r189_157, ↓r189_158, ↓r189_161, ↓r189_163, ↓r189_164, ↓r189_165, ↓r189_167, ↓r189_168, ↓r189_170, ↓r189_171, ↓r189_172, ↓r189_175, ↓r189_177, ↓r189_178, ↓r189_179, ↓r189_182, ↓r189_185, ↓r189_187, nI_nlt (Nat.le_refl i) (by omega), if_false]
      exact hQ r
    | succ f ih =>
      intro i r g hi hr hg
      rw [r189_150]
      have e1 : 24 * nI j + nI b + nI i = nI (24 * j + b + i) := by rw [x24, nI_add]
      simp only [↓r189_0, ↓r189_1, ↓r189_4, ↓r189_7, ↓r189_8, ↓r189_11, ↓r189_14, ↓r189_16, ↓r189_17, ↓r189_18, ↓r189_21, ↓r189_22, ↓r189_23, ↓r189_26, ↓r189_27, ↓r189_30, ↓r189_31, ↓r189_32, ↓r189_35, ↓r189_38, ↓r189_39, ↓r189_40, ↓r189_43, ↓r189_44, ↓r189_45, ↓r189_46, ↓r189_49, ↓r189_50, ↓r189_51, ↓r189_54, ↓r189_56, ↓r189_57, ↓r189_58, ↓r189_61, ↓r189_63, ↓r189_66, ↓r189_68, ↓r189_71, ↓r189_72, ↓r189_73, ↓r189_75, ↓r189_76, ↓r189_77, ↓r189_78, ↓r189_81, ↓r189_82, ↓r189_83, ↓r189_84, ↓r189_85, ↓r189_88, ↓r189_90, ↓r189_91, ↓r189_93, ↓r189_94, ↓r189_95, ↓r189_96, ↓r189_99, ↓r189_100, ↓r189_101, ↓r189_102, ↓r189_103, ↓r189_106, ↓r189_109, ↓r189_110, ↓r189_111, ↓r189_113, ↓r189_115, ↓r189_117, ↓r189_120, ↓r189_121, ↓r189_124, ↓r189_126, ↓r189_127, ↓r189_130, ↓r189_132, ↓r189_133, ↓r189_134, ↓r189_135, ↓r189_136, ↓r189_138, ↓r189_139, ↓r189_140, ↓r189_141, ↓r189_144, ↓r189_147, ↓r189_148, ↓r189_152, ↓r189_154, ↓r189_157, ↓r189_158, ↓r189_161, ↓r189_163, ↓r189_164, ↓r189_165, ↓r189_167, ↓r189_168, ↓r189_170, ↓r189_171, ↓r189_172, ↓r189_175, ↓r189_177, ↓r189_178, ↓r189_179, ↓r189_182, ↓r189_185, ↓r189_187, nI_lt (by omega : i < c) (by omega : c < 2 ^ 31), if_true, zl_77, zs_66, e1, zok_nI (by omega : 24 * j + b + i < 96) (by omega), zix_nI (by omega : 24 * j + b + i < 2 ^ 31), zok_nI (by omega : i < 24) (by omega), zix_nI (by omega : i < 2 ^ 31), zhr_ne _ _ (by omega : 77 ≠ 66), zhr_same, zhr_zhr, nI_1, true_and]
      refine ih (i + 1) r _ (by omega) hr ?_
      subst hg
      funext l
      rw [zup_ap]
      by_cases g1 : l = 24 * j + b + i
      · subst g1
        rw [if_pos rfl, pk_cpy_in (by omega) (by omega), hr i (by omega)]
        congr 1
        omega
      · rw [if_neg g1]
        by_cases g2 : 24 * j + b ≤ l ∧ l < 24 * j + b + i
        · rw [pk_cpy_in g2.1 g2.2, pk_cpy_in g2.1 (by omega)]
        · rw [pk_cpy_out (by omega), pk_cpy_out (by omega)]
  have l1 : ∀ (f i : Nat) (r : Nat → Int32), i + f = c → (∀ l, l < i → r l = h 66 (24 * k + p + l)) → zR (d + 5) 189 Q 113 [some (.ref 60), some (.int (nI k)), some (.int (nI p)), some (.int (nI j)), some (.int (nI b)), some (.int (nI c)), some (.int (nI i))] [] (zhr h 77 r) := by
    intro f
    induction f with
    | zero =>
      intro i r hi hr
      have hi' : i = c := by omega
      subst hi'
      rw [r189_113]
      simp only [↓r189_0, ↓r189_1, ↓r189_4, ↓r189_7, ↓r189_8, ↓r189_11, ↓r189_14, ↓r189_16, ↓r189_17, ↓r189_18, ↓r189_21, ↓r189_22, ↓r189_23, ↓r189_26, ↓r189_27, ↓r189_30, ↓r189_31, ↓r189_32, ↓r189_35, ↓r189_38, ↓r189_39, ↓r189_40, ↓r189_43, ↓r189_44, ↓r189_45, ↓r189_46, ↓r189_49, ↓r189_50, ↓r189_51, ↓r189_54, ↓r189_56, ↓r189_57, ↓r189_58, ↓r189_61, ↓r189_63, ↓r189_66, ↓r189_68, ↓r189_71, ↓r189_72, ↓r189_73, ↓r189_75, ↓r189_76, ↓r189_77, ↓r189_78, ↓r189_81, ↓r189_82, ↓r189_83, ↓r189_84, ↓r189_85, ↓r189_88, ↓r189_90, ↓r189_91, ↓r189_93, ↓r189_94, ↓r189_95, ↓r189_96, ↓r189_99, ↓r189_100, ↓r189_101, ↓r189_102, ↓r189_103, ↓r189_106, ↓r189_109, ↓r189_110, ↓r189_111, ↓r189_115, ↓r189_117, ↓r189_120, ↓r189_121, ↓r189_124, ↓r189_126, ↓r189_127, ↓r189_130, ↓r189_132, ↓r189_133, ↓r189_134, ↓r189_135, ↓r189_136, ↓r189_138, ↓r189_139, ↓r189_140, ↓r189_141, ↓r189_144, ↓r189_147, ↓r189_148, ↓r189_152, ↓r189_154, ↓r189_157, ↓r189_158, ↓r189_161, ↓r189_163, ↓r189_164, ↓r189_165, ↓r189_167, ↓r189_168, ↓r189_170, ↓r189_171, ↓r189_172, ↓r189_175, ↓r189_177, ↓r189_178, ↓r189_179, ↓r189_182, ↓r189_185, ↓r189_187, nI_nlt (Nat.le_refl i) (by omega), if_false]
      rw [← nI_0]
      have := l2 i 0 r (h 66) (by omega) hr (by funext l; rw [pk_cpy_out (by omega)])
      rw [show zhr (zhr h 77 r) 66 (h 66) = zhr h 77 r from ?_] at this
      · exact this
      · funext q
        rw [zhr_ap]
        by_cases g : q = 66
        · rw [if_pos g, g, zhr_ne _ _ (by omega)]
        · rw [if_neg g]
    | succ f ih =>
      intro i r hi hr
      rw [r189_113]
      have e1 : 24 * nI k + nI p + nI i = nI (24 * k + p + i) := by rw [x24, nI_add]
      simp only [↓r189_0, ↓r189_1, ↓r189_4, ↓r189_7, ↓r189_8, ↓r189_11, ↓r189_14, ↓r189_16, ↓r189_17, ↓r189_18, ↓r189_21, ↓r189_22, ↓r189_23, ↓r189_26, ↓r189_27, ↓r189_30, ↓r189_31, ↓r189_32, ↓r189_35, ↓r189_38, ↓r189_39, ↓r189_40, ↓r189_43, ↓r189_44, ↓r189_45, ↓r189_46, ↓r189_49, ↓r189_50, ↓r189_51, ↓r189_54, ↓r189_56, ↓r189_57, ↓r189_58, ↓r189_61, ↓r189_63, ↓r189_66, ↓r189_68, ↓r189_71, ↓r189_72, ↓r189_73, ↓r189_75, ↓r189_76, ↓r189_77, ↓r189_78, ↓r189_81, ↓r189_82, ↓r189_83, ↓r189_84, ↓r189_85, ↓r189_88, ↓r189_90, ↓r189_91, ↓r189_93, ↓r189_94, ↓r189_95, ↓r189_96, ↓r189_99, ↓r189_100, ↓r189_101, ↓r189_102, ↓r189_103, ↓r189_106, ↓r189_109, ↓r189_110, ↓r189_111, ↓r189_115, ↓r189_117, ↓r189_120, ↓r189_121, ↓r189_124, ↓r189_126, ↓r189_127, ↓r189_130, ↓r189_132, ↓r189_133, ↓r189_134, ↓r189_135, ↓r189_136, ↓r189_138, ↓r189_139, ↓r189_140, ↓r189_141, ↓r189_144, ↓r189_147, ↓r189_148, ↓r189_152, ↓r189_154, ↓r189_157, ↓r189_158, ↓r189_161, ↓r189_163, ↓r189_164, ↓r189_165, ↓r189_167, ↓r189_168, ↓r189_170, ↓r189_171, ↓r189_172, ↓r189_175, ↓r189_177, ↓r189_178, ↓r189_179, ↓r189_182, ↓r189_185, ↓r189_187, nI_lt (by omega : i < c) (by omega : c < 2 ^ 31), if_true, zl_66, zs_77, e1, zok_nI (by omega : 24 * k + p + i < 96) (by omega), zix_nI (by omega : 24 * k + p + i < 2 ^ 31), zok_nI (by omega : i < 24) (by omega), zix_nI (by omega : i < 2 ^ 31), zhr_ne _ _ (by omega : 66 ≠ 77), zhr_same, zhr_zhr, nI_1, true_and]
      refine ih (i + 1) _ (by omega) (fun l hl => ?_)
      rw [zup_ap]
      by_cases g1 : l = i
      · rw [if_pos g1, g1]
      · rw [if_neg g1]; exact hr l (by omega)
  simp only [↓r189_0, ↓r189_1, ↓r189_4, ↓r189_7, ↓r189_8, ↓r189_11, ↓r189_14, ↓r189_16, ↓r189_17, ↓r189_18, ↓r189_21, ↓r189_22, ↓r189_23, ↓r189_26, ↓r189_27, ↓r189_30, ↓r189_31, ↓r189_32, ↓r189_35, ↓r189_38, ↓r189_39, ↓r189_40, ↓r189_43, ↓r189_44, ↓r189_45, ↓r189_46, ↓r189_49, ↓r189_50, ↓r189_51, ↓r189_54, ↓r189_56, ↓r189_57, ↓r189_58, ↓r189_61, ↓r189_63, ↓r189_66, ↓r189_68, ↓r189_71, ↓r189_72, ↓r189_73, ↓r189_75, ↓r189_76, ↓r189_77, ↓r189_78, ↓r189_81, ↓r189_82, ↓r189_83, ↓r189_84, ↓r189_85, ↓r189_88, ↓r189_90, ↓r189_91, ↓r189_93, ↓r189_94, ↓r189_95, ↓r189_96, ↓r189_99, ↓r189_100, ↓r189_101, ↓r189_102, ↓r189_103, ↓r189_106, ↓r189_109, ↓r189_110, ↓r189_111, ↓r189_115, ↓r189_117, ↓r189_120, ↓r189_121, ↓r189_124, ↓r189_126, ↓r189_127, ↓r189_130, ↓r189_132, ↓r189_133, ↓r189_134, ↓r189_135, ↓r189_136, ↓r189_138, ↓r189_139, ↓r189_140, ↓r189_141, ↓r189_144, ↓r189_147, ↓r189_148, ↓r189_152, ↓r189_154, ↓r189_157, ↓r189_158, ↓r189_161, ↓r189_163, ↓r189_164, ↓r189_165, ↓r189_167, ↓r189_168, ↓r189_170, ↓r189_171, ↓r189_172, ↓r189_175, ↓r189_177, ↓r189_178, ↓r189_179, ↓r189_182, ↓r189_185, ↓r189_187]
  rw [← nI_0]
  have := l1 c 0 (h 77) (by omega) (fun l hl => absurd hl (by omega))
  rw [zhr_self] at this
  exact this
theorem p_copy : zPair (d + 20) (d + 20) 90 189 [.int x0, .int x1, .int x2, .int x3, .int x4] := by
  intro h Q2 hR hQ
  have hR0 := hR
  obtain ⟨n, m, N, hRN⟩ := hR
  obtain ⟨-, -, -, hSh, -⟩ := id hRN
  rw [rSheets_all] at hSh
  by_cases g0 : 0 ≤ x0 ∧ x0 ≤ 3
  · by_cases g2 : 0 ≤ x2 ∧ x2 ≤ 3
    · obtain ⟨k, hk, rfl⟩ := hasN (q := 3) (by decide) g0
      obtain ⟨j, hj, rfl⟩ := hasN (q := 3) (by decide) g2
      have hk4 : k < 4 := by omega
      have hj4 : j < 4 := by omega
      have hc := zsh_k hk4
      have hb := zsh_k hj4
      obtain ⟨q1, q2, ⟨zf, hzf, q3, q3'⟩, q4⟩ := hSh k hk4
      obtain ⟨p1, p2, ⟨zt, hzt, p3, p3'⟩, p4⟩ := hSh j hj4
      have q2' := sort_neg q2
      have p2' := sort_neg p2
      rw [m90]
      simp (decide := true) only [↓r90_0, ↓r90_1, ↓r90_2, ↓r90_5, ↓r90_5n, ↓r90_7, ↓r90_8, ↓r90_9, ↓r90_12, ↓r90_12n, ↓r90_14, ↓r90_14n, ↓r90_16, ↓r90_16n, ↓r90_19, ↓r90_19n, ↓r90_21, ↓r90_21n, ↓r90_24, ↓r90_26, ↓r90_27, ↓r90_27n, ↓r90_29, ↓r90_32, ↓r90_35, ↓r90_35n, ↓r90_37, ↓r90_40, ↓r90_43, ↓r90_45, ↓r90_46, ↓r90_46n, ↓r90_48, ↓r90_51, ↓r90_51n, ↓r90_53, ↓r90_56, ↓r90_59, ↓r90_61, ↓r90_62, ↓r90_62n, ↓r90_64, ↓r90_65, ↓r90_67, ↓r90_70, ↓r90_73, ↓r90_73n, ↓r90_75, ↓r90_77, ↓r90_79, ↓r90_82, ↓r90_85, ↓r90_88, ↓r90_89, ↓r90_89n, ↓r90_91, ↓r90_94, ↓r90_95, ↓r90_95n, ↓r90_97, ↓r90_100, ↓r90_102, ↓r90_104, ↓r90_107, ↓r90_109, c95k hk4, c95k hj4, c32 hc, c32 hb, Option.toList, List.cons_append, List.nil_append, true_and, q1, p1, zc_h hc, zc_h hb, c34' hc, c34' hb, q3', p3']
      have hx : ∀ v, (∀ h1 Q, h1 = h → zM (d + 20) 189 [.ref 60, .int (nI k), .int x1, .int (nI j), .int x3, .int x4] h1 Q = Q (some (.int v)) h) → zPo h (d + 20) 189 [.int (nI k), .int x1, .int (nI j), .int x3, .int x4] Q2 (some (.int v)) h := by
        intro v e
        refine zPo_in rfl rfl ?_
        rw [e _ _ rfl]
        exact zPq_in rfl (hQ _ _ hR0 rfl rfl)
      have zz := zok_nI hk4 (by omega : 4 < 2 ^ 31)
      have zy := zok_nI hj4 (by omega : 4 < 2 ^ 31)
      by_cases g3 : h 64 k = -1
      · simp (decide := true) only [if_pos g3, ↓reduceIte]
        refine hx _ fun h1 Q e => ?_
        subst e
        rw [m189]
        simp (decide := true) only [↓r189_0, ↓r189_1, ↓r189_4, ↓r189_7, ↓r189_8, ↓r189_11, ↓r189_14, ↓r189_16, ↓r189_17, ↓r189_18, ↓r189_21, ↓r189_22, ↓r189_23, ↓r189_26, ↓r189_27, ↓r189_30, ↓r189_31, ↓r189_32, ↓r189_35, ↓r189_38, ↓r189_39, ↓r189_40, ↓r189_43, ↓r189_44, ↓r189_45, ↓r189_46, ↓r189_49, ↓r189_50, ↓r189_51, ↓r189_54, ↓r189_56, ↓r189_58, ↓r189_61, ↓r189_63, ↓r189_66, ↓r189_68, ↓r189_71, ↓r189_72, ↓r189_73, ↓r189_75, ↓r189_76, ↓r189_77, ↓r189_78, ↓r189_81, ↓r189_82, ↓r189_83, ↓r189_84, ↓r189_85, ↓r189_88, ↓r189_90, ↓r189_91, ↓r189_93, ↓r189_94, ↓r189_95, ↓r189_96, ↓r189_99, ↓r189_100, ↓r189_101, ↓r189_102, ↓r189_103, ↓r189_106, ↓r189_109, ↓r189_110, ↓r189_111, ↓r189_113, ↓r189_115, ↓r189_117, ↓r189_120, ↓r189_121, ↓r189_124, ↓r189_126, ↓r189_127, ↓r189_130, ↓r189_132, ↓r189_133, ↓r189_134, ↓r189_135, ↓r189_136, ↓r189_138, ↓r189_139, ↓r189_140, ↓r189_141, ↓r189_144, ↓r189_147, ↓r189_148, ↓r189_150, ↓r189_152, ↓r189_154, ↓r189_157, ↓r189_158, ↓r189_161, ↓r189_163, ↓r189_164, ↓r189_165, ↓r189_167, ↓r189_168, ↓r189_170, ↓r189_171, ↓r189_172, ↓r189_175, ↓r189_177, ↓r189_178, ↓r189_179, ↓r189_182, ↓r189_185, ↓r189_187, c183, if_pos g0, if_pos g2, ↓reduceIte, Option.toList, List.cons_append, List.nil_append, zl_64, zz, zix_nI (by omega : k < 2 ^ 31), q2', if_pos g3, true_and]
      · by_cases g4 : h 64 j = -1
        · simp (decide := true) only [if_neg g3, if_pos g4, ↓reduceIte]
          refine hx _ fun h1 Q e => ?_
          subst e
          rw [m189]
          simp (decide := true) only [↓r189_0, ↓r189_1, ↓r189_4, ↓r189_7, ↓r189_8, ↓r189_11, ↓r189_14, ↓r189_16, ↓r189_17, ↓r189_18, ↓r189_21, ↓r189_22, ↓r189_23, ↓r189_26, ↓r189_27, ↓r189_30, ↓r189_31, ↓r189_32, ↓r189_35, ↓r189_38, ↓r189_39, ↓r189_40, ↓r189_43, ↓r189_44, ↓r189_45, ↓r189_46, ↓r189_49, ↓r189_50, ↓r189_51, ↓r189_54, ↓r189_56, ↓r189_58, ↓r189_61, ↓r189_63, ↓r189_66, ↓r189_68, ↓r189_71, ↓r189_72, ↓r189_73, ↓r189_75, ↓r189_76, ↓r189_77, ↓r189_78, ↓r189_81, ↓r189_82, ↓r189_83, ↓r189_84, ↓r189_85, ↓r189_88, ↓r189_90, ↓r189_91, ↓r189_93, ↓r189_94, ↓r189_95, ↓r189_96, ↓r189_99, ↓r189_100, ↓r189_101, ↓r189_102, ↓r189_103, ↓r189_106, ↓r189_109, ↓r189_110, ↓r189_111, ↓r189_113, ↓r189_115, ↓r189_117, ↓r189_120, ↓r189_121, ↓r189_124, ↓r189_126, ↓r189_127, ↓r189_130, ↓r189_132, ↓r189_133, ↓r189_134, ↓r189_135, ↓r189_136, ↓r189_138, ↓r189_139, ↓r189_140, ↓r189_141, ↓r189_144, ↓r189_147, ↓r189_148, ↓r189_150, ↓r189_152, ↓r189_154, ↓r189_157, ↓r189_158, ↓r189_161, ↓r189_163, ↓r189_164, ↓r189_165, ↓r189_167, ↓r189_168, ↓r189_170, ↓r189_171, ↓r189_172, ↓r189_175, ↓r189_177, ↓r189_178, ↓r189_179, ↓r189_182, ↓r189_185, ↓r189_187, c183, if_pos g0, if_pos g2, ↓reduceIte, Option.toList, List.cons_append, List.nil_append, zl_64, zz, zy, zix_nI (by omega : k < 2 ^ 31), zix_nI (by omega : j < 2 ^ 31), q2', p2', if_neg g3, if_pos g4, true_and]
        · simp (decide := true) only [if_neg g3, if_neg g4, ↓reduceIte]
          by_cases g5 : h 64 k = h 64 j
          · simp only [if_pos g5]
            by_cases g6 : cpOk x1 x4 (nI zf) ∧ cpOk x3 x4 (nI zt)
            · simp (decide := true) only [if_pos g6.1, if_pos g6.2, ↓reduceIte]
              obtain ⟨p, hp, rfl⟩ := nI_of (Int32.not_lt.mpr g6.1.2.1)
              obtain ⟨b, hbb, rfl⟩ := nI_of (Int32.not_lt.mpr g6.2.2.1)
              obtain ⟨c, hcc, rfl⟩ := nI_of (Int32.not_lt.mpr g6.1.1.1)
              have k1 : p + c ≤ zf := (hasPl hp hcc hzf).mp g6.1
              have k2 : b + c ≤ zt := (hasPl hbb hcc hzt).mp g6.2
              have z1 := zc_h1 hc
              have z2 := zc_h1 hb
              have z3 := zaln_h hc
              have z4 := zaln_h hb
              rw [show 35 + 2 * k + 1 = 36 + 2 * k by omega] at z1 z3
              rw [show 35 + 2 * j + 1 = 36 + 2 * j by omega] at z2 z4
              simp only [show 35 + 2 * k + 1 = 36 + 2 * k by omega, show 35 + 2 * j + 1 = 36 + 2 * j by omega]
              rw [m1003, z1, z2, z3, z4, zix_nI hp, zix_nI hbb, zix_nI hcc]
              refine ⟨⟨rfl, rfl, nI_pos hp, nI_pos hbb, nI_pos hcc, by omega, by omega⟩, ?_⟩
              simp only [Option.toList, List.cons_append, List.nil_append, ↓r90_0, ↓r90_1, ↓r90_2, ↓r90_5, ↓r90_5n, ↓r90_7, ↓r90_8, ↓r90_9, ↓r90_12, ↓r90_12n, ↓r90_14, ↓r90_14n, ↓r90_16, ↓r90_16n, ↓r90_19, ↓r90_19n, ↓r90_21, ↓r90_21n, ↓r90_24, ↓r90_26, ↓r90_27, ↓r90_27n, ↓r90_29, ↓r90_32, ↓r90_35, ↓r90_35n, ↓r90_37, ↓r90_40, ↓r90_43, ↓r90_45, ↓r90_46, ↓r90_46n, ↓r90_48, ↓r90_51, ↓r90_51n, ↓r90_53, ↓r90_56, ↓r90_59, ↓r90_61, ↓r90_62, ↓r90_62n, ↓r90_64, ↓r90_65, ↓r90_67, ↓r90_70, ↓r90_73, ↓r90_73n, ↓r90_75, ↓r90_77, ↓r90_79, ↓r90_82, ↓r90_85, ↓r90_88, ↓r90_89, ↓r90_89n, ↓r90_91, ↓r90_94, ↓r90_95, ↓r90_95n, ↓r90_97, ↓r90_100, ↓r90_102, ↓r90_104, ↓r90_107, ↓r90_109]
              refine zPo_in (by rw [zhr_ne _ _ (by omega)]) (by rw [zhr_ne _ _ (by omega)]) ?_
              have o : ∀ r c, c ≠ 36 + 2 * j → zhr h (36 + 2 * j) r c = h c := fun r c a => zhr_ne _ _ a
              rw [m189]
              simp (decide := true) only [↓r189_0, ↓r189_1, ↓r189_4, ↓r189_7, ↓r189_8, ↓r189_11, ↓r189_14, ↓r189_16, ↓r189_17, ↓r189_18, ↓r189_21, ↓r189_22, ↓r189_23, ↓r189_26, ↓r189_27, ↓r189_30, ↓r189_31, ↓r189_32, ↓r189_35, ↓r189_38, ↓r189_39, ↓r189_40, ↓r189_43, ↓r189_44, ↓r189_45, ↓r189_46, ↓r189_49, ↓r189_50, ↓r189_51, ↓r189_54, ↓r189_56, ↓r189_58, ↓r189_61, ↓r189_63, ↓r189_66, ↓r189_68, ↓r189_71, ↓r189_72, ↓r189_73, ↓r189_75, ↓r189_76, ↓r189_77, ↓r189_78, ↓r189_81, ↓r189_82, ↓r189_83, ↓r189_84, ↓r189_85, ↓r189_88, ↓r189_90, ↓r189_91, ↓r189_93, ↓r189_94, ↓r189_95, ↓r189_96, ↓r189_99, ↓r189_100, ↓r189_101, ↓r189_102, ↓r189_103, ↓r189_106, ↓r189_109, ↓r189_110, ↓r189_111, ↓r189_113, ↓r189_115, ↓r189_117, ↓r189_120, ↓r189_121, ↓r189_124, ↓r189_126, ↓r189_127, ↓r189_130, ↓r189_132, ↓r189_133, ↓r189_134, ↓r189_135, ↓r189_136, ↓r189_138, ↓r189_139, ↓r189_140, ↓r189_141, ↓r189_144, ↓r189_147, ↓r189_148, ↓r189_150, ↓r189_152, ↓r189_154, ↓r189_157, ↓r189_158, ↓r189_161, ↓r189_163, ↓r189_164, ↓r189_165, ↓r189_167, ↓r189_168, ↓r189_170, ↓r189_171, ↓r189_172, ↓r189_175, ↓r189_177, ↓r189_178, ↓r189_179, ↓r189_182, ↓r189_185, ↓r189_187, c183, if_pos g0, if_pos g2, ↓reduceIte, Option.toList, List.cons_append, List.nil_append, zl_64, o _ 64 (by omega : 64 ≠ 36 + 2 * j), zz, zy, zix_nI (by omega : k < 2 ^ 31), zix_nI (by omega : j < 2 ^ 31), q2', p2', if_neg g3, if_neg g4, if_pos g5, true_and]
              rw [c189_57 (d := d + 14) hk4 hj4 hzf hzt (by rw [o _ 65 (by omega)]; exact q3) (by rw [o _ 65 (by omega)]; exact p3), if_pos g6]
              refine c189_go (d := d + 14) hk4 hj4 (by omega) (by omega) fun r => ?_
              rw [o _ 66 (by omega)]
              have oo : ∀ f g r c, c ≠ 36 + 2 * j → c ≠ 66 → c ≠ 77 → zhr (zhr (zhr h (36 + 2 * j) f) 77 r) 66 g c = h c := fun f g r c a b d => by rw [zhr_ne _ _ b, zhr_ne _ _ d, zhr_ne _ _ a]
              refine zPq_in rfl (hQ _ _ ⟨n, m, N, zRel_sh hRN (fun c a1 a2 a3 a4 a5 => oo _ _ _ c (by omega) a4 a5) ?_⟩ (oo _ _ _ _ (by omega) (by omega) (by omega)) (oo _ _ _ _ (by omega) (by omega) (by omega)))
              rw [rSheets_all]
              intro l hl
              have hSl := hSh l hl
              by_cases gl : l = j
              · subst gl
                obtain ⟨w1, w2, w3, w4⟩ := hSl
                rw [oo _ _ _ (35 + 2 * l) (by omega) (by omega) (by omega), oo _ _ _ 64 (by omega) (by omega) (by omega), oo _ _ _ 65 (by omega) (by omega) (by omega), zhr_same, zhr_ne _ _ (by omega : 36 + 2 * l ≠ 66), zhr_ne _ _ (by omega : 36 + 2 * l ≠ 77), zhr_same]
                refine ⟨w1, w2, w3, fun i hi => ?_⟩
                by_cases gi : b ≤ i ∧ i < b + c
                · rw [pk_cpy_in gi.1 gi.2, pk_cpy_in (by omega) (by omega), show 24 * k + p + (24 * l + i - (24 * l + b)) = 24 * k + (p + (i - b)) by omega]
                  exact q4 (p + (i - b)) (by omega)
                · rw [pk_cpy_out (by omega), pk_cpy_out (by omega)]
                  exact w4 i hi
              · refine rSheet_cong hSl (oo _ _ _ _ (by omega) (by omega) (by omega)) (oo _ _ _ _ (by omega) (by omega) (by omega)) (by rw [oo _ _ _ _ (by omega) (by omega) (by omega)]) (by rw [oo _ _ _ _ (by omega) (by omega) (by omega)]) (fun i hi => ?_)
                rw [zhr_same, pk_cpy_out (by omega)]
            · have hin : zPo h (d + 20) 189 [.int (nI k), .int x1, .int (nI j), .int x3, .int x4] Q2 (some (.int (-1000000013))) h := by
                refine hx _ fun h1 Q e => ?_
                subst e
                rw [m189]
                simp (decide := true) only [↓r189_0, ↓r189_1, ↓r189_4, ↓r189_7, ↓r189_8, ↓r189_11, ↓r189_14, ↓r189_16, ↓r189_17, ↓r189_18, ↓r189_21, ↓r189_22, ↓r189_23, ↓r189_26, ↓r189_27, ↓r189_30, ↓r189_31, ↓r189_32, ↓r189_35, ↓r189_38, ↓r189_39, ↓r189_40, ↓r189_43, ↓r189_44, ↓r189_45, ↓r189_46, ↓r189_49, ↓r189_50, ↓r189_51, ↓r189_54, ↓r189_56, ↓r189_58, ↓r189_61, ↓r189_63, ↓r189_66, ↓r189_68, ↓r189_71, ↓r189_72, ↓r189_73, ↓r189_75, ↓r189_76, ↓r189_77, ↓r189_78, ↓r189_81, ↓r189_82, ↓r189_83, ↓r189_84, ↓r189_85, ↓r189_88, ↓r189_90, ↓r189_91, ↓r189_93, ↓r189_94, ↓r189_95, ↓r189_96, ↓r189_99, ↓r189_100, ↓r189_101, ↓r189_102, ↓r189_103, ↓r189_106, ↓r189_109, ↓r189_110, ↓r189_111, ↓r189_113, ↓r189_115, ↓r189_117, ↓r189_120, ↓r189_121, ↓r189_124, ↓r189_126, ↓r189_127, ↓r189_130, ↓r189_132, ↓r189_133, ↓r189_134, ↓r189_135, ↓r189_136, ↓r189_138, ↓r189_139, ↓r189_140, ↓r189_141, ↓r189_144, ↓r189_147, ↓r189_148, ↓r189_150, ↓r189_152, ↓r189_154, ↓r189_157, ↓r189_158, ↓r189_161, ↓r189_163, ↓r189_164, ↓r189_165, ↓r189_167, ↓r189_168, ↓r189_170, ↓r189_171, ↓r189_172, ↓r189_175, ↓r189_177, ↓r189_178, ↓r189_179, ↓r189_182, ↓r189_185, ↓r189_187, c183, if_pos g0, if_pos g2, ↓reduceIte, Option.toList, List.cons_append, List.nil_append, zl_64, zz, zy, zix_nI (by omega : k < 2 ^ 31), zix_nI (by omega : j < 2 ^ 31), q2', p2', if_neg g3, if_neg g4, if_pos g5, true_and]
                rw [c189_57 (d := d + 14) hk4 hj4 hzf hzt q3 p3, if_neg g6]
              by_cases g7 : cpOk x1 x4 (nI zf)
              · have g8 : ¬ cpOk x3 x4 (nI zt) := fun q => g6 ⟨g7, q⟩
                simp (decide := true) only [if_pos g7, if_neg g8, ↓reduceIte]
                exact hin
              · simp (decide := true) only [if_neg g7, ↓reduceIte]
                exact hin
          · simp only [if_neg g5]
            refine hx _ fun h1 Q e => ?_
            subst e
            rw [m189]
            simp (decide := true) only [↓r189_0, ↓r189_1, ↓r189_4, ↓r189_7, ↓r189_8, ↓r189_11, ↓r189_14, ↓r189_16, ↓r189_17, ↓r189_18, ↓r189_21, ↓r189_22, ↓r189_23, ↓r189_26, ↓r189_27, ↓r189_30, ↓r189_31, ↓r189_32, ↓r189_35, ↓r189_38, ↓r189_39, ↓r189_40, ↓r189_43, ↓r189_44, ↓r189_45, ↓r189_46, ↓r189_49, ↓r189_50, ↓r189_51, ↓r189_54, ↓r189_56, ↓r189_58, ↓r189_61, ↓r189_63, ↓r189_66, ↓r189_68, ↓r189_71, ↓r189_72, ↓r189_73, ↓r189_75, ↓r189_76, ↓r189_77, ↓r189_78, ↓r189_81, ↓r189_82, ↓r189_83, ↓r189_84, ↓r189_85, ↓r189_88, ↓r189_90, ↓r189_91, ↓r189_93, ↓r189_94, ↓r189_95, ↓r189_96, ↓r189_99, ↓r189_100, ↓r189_101, ↓r189_102, ↓r189_103, ↓r189_106, ↓r189_109, ↓r189_110, ↓r189_111, ↓r189_113, ↓r189_115, ↓r189_117, ↓r189_120, ↓r189_121, ↓r189_124, ↓r189_126, ↓r189_127, ↓r189_130, ↓r189_132, ↓r189_133, ↓r189_134, ↓r189_135, ↓r189_136, ↓r189_138, ↓r189_139, ↓r189_140, ↓r189_141, ↓r189_144, ↓r189_147, ↓r189_148, ↓r189_150, ↓r189_152, ↓r189_154, ↓r189_157, ↓r189_158, ↓r189_161, ↓r189_163, ↓r189_164, ↓r189_165, ↓r189_167, ↓r189_168, ↓r189_170, ↓r189_171, ↓r189_172, ↓r189_175, ↓r189_177, ↓r189_178, ↓r189_179, ↓r189_182, ↓r189_185, ↓r189_187, c183, if_pos g0, if_pos g2, ↓reduceIte, Option.toList, List.cons_append, List.nil_append, zl_64, zz, zy, zix_nI (by omega : k < 2 ^ 31), zix_nI (by omega : j < 2 ^ 31), q2', p2', if_neg g3, if_neg g4, if_neg g5, true_and]
    · obtain ⟨k, hk, rfl⟩ := hasN (q := 3) (by decide) g0
      rw [m90]
      simp (decide := true) only [↓r90_0, ↓r90_1, ↓r90_2, ↓r90_5, ↓r90_5n, ↓r90_7, ↓r90_8, ↓r90_9, ↓r90_12, ↓r90_12n, ↓r90_14, ↓r90_14n, ↓r90_16, ↓r90_16n, ↓r90_19, ↓r90_19n, ↓r90_21, ↓r90_21n, ↓r90_24, ↓r90_26, ↓r90_27, ↓r90_27n, ↓r90_29, ↓r90_32, ↓r90_35, ↓r90_35n, ↓r90_37, ↓r90_40, ↓r90_43, ↓r90_45, ↓r90_46, ↓r90_46n, ↓r90_48, ↓r90_51, ↓r90_51n, ↓r90_53, ↓r90_56, ↓r90_59, ↓r90_61, ↓r90_62, ↓r90_62n, ↓r90_64, ↓r90_65, ↓r90_67, ↓r90_70, ↓r90_73, ↓r90_73n, ↓r90_75, ↓r90_77, ↓r90_79, ↓r90_82, ↓r90_85, ↓r90_88, ↓r90_89, ↓r90_89n, ↓r90_91, ↓r90_94, ↓r90_95, ↓r90_95n, ↓r90_97, ↓r90_100, ↓r90_102, ↓r90_104, ↓r90_107, ↓r90_109, c95k (by omega : k < 4), c95n g2, Option.toList, List.cons_append, List.nil_append]
      refine zPo_in rfl rfl ?_
      rw [m189]
      simp (decide := true) only [↓r189_0, ↓r189_1, ↓r189_4, ↓r189_7, ↓r189_8, ↓r189_11, ↓r189_14, ↓r189_16, ↓r189_17, ↓r189_18, ↓r189_21, ↓r189_22, ↓r189_23, ↓r189_26, ↓r189_27, ↓r189_30, ↓r189_31, ↓r189_32, ↓r189_35, ↓r189_38, ↓r189_39, ↓r189_40, ↓r189_43, ↓r189_44, ↓r189_45, ↓r189_46, ↓r189_49, ↓r189_50, ↓r189_51, ↓r189_54, ↓r189_56, ↓r189_58, ↓r189_61, ↓r189_63, ↓r189_66, ↓r189_68, ↓r189_71, ↓r189_72, ↓r189_73, ↓r189_75, ↓r189_76, ↓r189_77, ↓r189_78, ↓r189_81, ↓r189_82, ↓r189_83, ↓r189_84, ↓r189_85, ↓r189_88, ↓r189_90, ↓r189_91, ↓r189_93, ↓r189_94, ↓r189_95, ↓r189_96, ↓r189_99, ↓r189_100, ↓r189_101, ↓r189_102, ↓r189_103, ↓r189_106, ↓r189_109, ↓r189_110, ↓r189_111, ↓r189_113, ↓r189_115, ↓r189_117, ↓r189_120, ↓r189_121, ↓r189_124, ↓r189_126, ↓r189_127, ↓r189_130, ↓r189_132, ↓r189_133, ↓r189_134, ↓r189_135, ↓r189_136, ↓r189_138, ↓r189_139, ↓r189_140, ↓r189_141, ↓r189_144, ↓r189_147, ↓r189_148, ↓r189_150, ↓r189_152, ↓r189_154, ↓r189_157, ↓r189_158, ↓r189_161, ↓r189_163, ↓r189_164, ↓r189_165, ↓r189_167, ↓r189_168, ↓r189_170, ↓r189_171, ↓r189_172, ↓r189_175, ↓r189_177, ↓r189_178, ↓r189_179, ↓r189_182, ↓r189_185, ↓r189_187, c183, if_pos g0, if_neg g2, ↓reduceIte, Option.toList, List.cons_append, List.nil_append, true_and]
      exact zPq_in rfl (hQ _ _ hR0 rfl rfl)
  · have hx : zPo h (d + 20) 189 [.int x0, .int x1, .int x2, .int x3, .int x4] Q2 (some (.int (-1000000001))) h := by
      refine zPo_in rfl rfl ?_
      rw [m189]
      simp (decide := true) only [↓r189_0, ↓r189_1, ↓r189_4, ↓r189_7, ↓r189_8, ↓r189_11, ↓r189_14, ↓r189_16, ↓r189_17, ↓r189_18, ↓r189_21, ↓r189_22, ↓r189_23, ↓r189_26, ↓r189_27, ↓r189_30, ↓r189_31, ↓r189_32, ↓r189_35, ↓r189_38, ↓r189_39, ↓r189_40, ↓r189_43, ↓r189_44, ↓r189_45, ↓r189_46, ↓r189_49, ↓r189_50, ↓r189_51, ↓r189_54, ↓r189_56, ↓r189_58, ↓r189_61, ↓r189_63, ↓r189_66, ↓r189_68, ↓r189_71, ↓r189_72, ↓r189_73, ↓r189_75, ↓r189_76, ↓r189_77, ↓r189_78, ↓r189_81, ↓r189_82, ↓r189_83, ↓r189_84, ↓r189_85, ↓r189_88, ↓r189_90, ↓r189_91, ↓r189_93, ↓r189_94, ↓r189_95, ↓r189_96, ↓r189_99, ↓r189_100, ↓r189_101, ↓r189_102, ↓r189_103, ↓r189_106, ↓r189_109, ↓r189_110, ↓r189_111, ↓r189_113, ↓r189_115, ↓r189_117, ↓r189_120, ↓r189_121, ↓r189_124, ↓r189_126, ↓r189_127, ↓r189_130, ↓r189_132, ↓r189_133, ↓r189_134, ↓r189_135, ↓r189_136, ↓r189_138, ↓r189_139, ↓r189_140, ↓r189_141, ↓r189_144, ↓r189_147, ↓r189_148, ↓r189_150, ↓r189_152, ↓r189_154, ↓r189_157, ↓r189_158, ↓r189_161, ↓r189_163, ↓r189_164, ↓r189_165, ↓r189_167, ↓r189_168, ↓r189_170, ↓r189_171, ↓r189_172, ↓r189_175, ↓r189_177, ↓r189_178, ↓r189_179, ↓r189_182, ↓r189_185, ↓r189_187, c183, if_neg g0, ↓reduceIte, Option.toList, List.cons_append, List.nil_append, true_and]
      exact zPq_in rfl (hQ _ _ hR0 rfl rfl)
    rw [m90]
    by_cases g2 : 0 ≤ x2 ∧ x2 ≤ 3
    · obtain ⟨j, hj, rfl⟩ := hasN (q := 3) (by decide) g2
      simp (decide := true) only [↓r90_0, ↓r90_1, ↓r90_2, ↓r90_5, ↓r90_5n, ↓r90_7, ↓r90_8, ↓r90_9, ↓r90_12, ↓r90_12n, ↓r90_14, ↓r90_14n, ↓r90_16, ↓r90_16n, ↓r90_19, ↓r90_19n, ↓r90_21, ↓r90_21n, ↓r90_24, ↓r90_26, ↓r90_27, ↓r90_27n, ↓r90_29, ↓r90_32, ↓r90_35, ↓r90_35n, ↓r90_37, ↓r90_40, ↓r90_43, ↓r90_45, ↓r90_46, ↓r90_46n, ↓r90_48, ↓r90_51, ↓r90_51n, ↓r90_53, ↓r90_56, ↓r90_59, ↓r90_61, ↓r90_62, ↓r90_62n, ↓r90_64, ↓r90_65, ↓r90_67, ↓r90_70, ↓r90_73, ↓r90_73n, ↓r90_75, ↓r90_77, ↓r90_79, ↓r90_82, ↓r90_85, ↓r90_88, ↓r90_89, ↓r90_89n, ↓r90_91, ↓r90_94, ↓r90_95, ↓r90_95n, ↓r90_97, ↓r90_100, ↓r90_102, ↓r90_104, ↓r90_107, ↓r90_109, c95n g0, c95k (by omega : j < 4), Option.toList, List.cons_append, List.nil_append]
      exact hx
    · simp (decide := true) only [↓r90_0, ↓r90_1, ↓r90_2, ↓r90_5, ↓r90_5n, ↓r90_7, ↓r90_8, ↓r90_9, ↓r90_12, ↓r90_12n, ↓r90_14, ↓r90_14n, ↓r90_16, ↓r90_16n, ↓r90_19, ↓r90_19n, ↓r90_21, ↓r90_21n, ↓r90_24, ↓r90_26, ↓r90_27, ↓r90_27n, ↓r90_29, ↓r90_32, ↓r90_35, ↓r90_35n, ↓r90_37, ↓r90_40, ↓r90_43, ↓r90_45, ↓r90_46, ↓r90_46n, ↓r90_48, ↓r90_51, ↓r90_51n, ↓r90_53, ↓r90_56, ↓r90_59, ↓r90_61, ↓r90_62, ↓r90_62n, ↓r90_64, ↓r90_65, ↓r90_67, ↓r90_70, ↓r90_73, ↓r90_73n, ↓r90_75, ↓r90_77, ↓r90_79, ↓r90_82, ↓r90_85, ↓r90_88, ↓r90_89, ↓r90_89n, ↓r90_91, ↓r90_94, ↓r90_95, ↓r90_95n, ↓r90_97, ↓r90_100, ↓r90_102, ↓r90_104, ↓r90_107, ↓r90_109, c95n g0, c95n g2, Option.toList, List.cons_append, List.nil_append]
      exact hx
end
