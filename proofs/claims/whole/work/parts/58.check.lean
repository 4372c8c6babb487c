/-! check -/
def ansR (w e k : Nat) : Int32 := if k = w ∧ k = e then 0 else nI (1 + k)
section
variable {d : Nat} {x0 x1 x2 x3 x4 v x a u : Int32} {h h' h1 h2 : zH} {n m N n' m' k w j f b c t i z F E due : Nat} {s row row' T D : Nat → Int32} {Q : Option Value → zH → Prop} {τ : zTau}
theorem x2i (i : Nat) : 2 * nI i = nI (2 * i) := by rw [show (2 : Int32) = nI 2 from rfl, pk_mul]
theorem x1i (i : Nat) : 1 + nI i = nI (1 + i) := by rw [show (1 : Int32) = nI 1 from rfl, nI_add]
theorem x3i (i : Nat) : 2 + nI i = nI (2 + i) := by rw [show (2 : Int32) = nI 2 from rfl, nI_add]
theorem zRel_ck (hR : zRelN h n m N) (e : ∀ c, ¬ (26 ≤ c ∧ c ≤ 33) → c ≠ 0 → c ≠ 6 → c ≠ 60 → c ≠ 63 → c ≠ 75 → c ≠ 76 → c ≠ 79 → h' c = h c) (e0 : h' 0 = upd (h 0) 9 0) (e60 : h' 60 = upd (h 60) 31 0) : zRelN h' n m N := by
  obtain ⟨⟨hSt, hm⟩, hu, hI, hSh, hSl, hNu, hTa⟩ := hR
  have o : ∀ c, ¬ (26 ≤ c ∧ c ≤ 33) ∧ c ≠ 0 ∧ c ≠ 6 ∧ c ≠ 60 ∧ c ≠ 63 ∧ c ≠ 75 ∧ c ≠ 76 ∧ c ≠ 79 → h' c = h c := fun c q => e c q.1 q.2.1 q.2.2.1 q.2.2.2.1 q.2.2.2.2.1 q.2.2.2.2.2.1 q.2.2.2.2.2.2.1 q.2.2.2.2.2.2.2
  refine ⟨⟨?_, hm⟩, by rw [e60, pk_un (by omega)]; exact hu, rImg_keep hI (fun c' hc' => o _ (by omega)) (by rw [e0, pk_un (by omega)]) (by rw [e60, pk_un (by omega)]), rSheets_keep hSh (fun c' hc' => o _ (by omega)), rSlots_keep hSl (fun c' hc' => o _ (by omega)), ?_, ?_⟩
  · rw [o 61 (by omega)]
    exact zSt_keep hSt (fun j hj => o _ (by omega)) (fun c' a b => o _ (by omega))
  · rw [e0, e60, o 59 (by omega), o 78 (by omega), pk_us, pk_us]
    exact ⟨rfl, ⟨0, by omega, rfl⟩, hNu.2.2⟩
  · rw [e60, o 7 (by omega), o 8 (by omega), o 74 (by omega), pk_un (by omega)]; exact hTa
theorem chk_no {g p : Nat} (q : ¬ (p < w ∧ p < E ∧ T p = D p)) : chkR T D w E (g + 1) p = p := if_neg q
theorem chk_go {g p : Nat} (q : p < w ∧ p < E ∧ T p = D p) : chkR T D w E (g + 1) p = chkR T D w E g (p + 1) := if_pos q
theorem due_e (i : Nat) : dueR τ n s (2 * i) = stepN τ (-1) n (i + 1) s 3 ∧ dueR τ n s (2 * i + 1) = stepN τ (-1) n (i + 1) s 4 := by
  unfold dueR
  rw [show 2 * i / 2 = i by omega, show 2 * i % 2 = 0 by omega, show (2 * i + 1) / 2 = i by omega, show (2 * i + 1) % 2 = 1 by omega]
  exact ⟨rfl, rfl⟩
theorem c98_loop (hB : zB s n m) (hd : due ≤ 30) (hm : m ≤ 9999) (hw : w ≤ 60) : ∀ (g i : Nat) (h1 : zH), i + g = due → td h h1 → zV h1 26 (stepN τ (-1) n i s) → zTC h1 26 τ → h1 26 14 = -1 → 2 * i ≤ w → (∀ h2, td h h2 → Q (some (.int (ansR w (2 * due) (chkR (h 59) (dueR τ n s) w (2 * due) (2 * g + 1) (2 * i))))) h2) → zR (d + 7) 98 Q 64 [some (.ref 0), some (.int x0), some (.int (nI w)), some (.int (nI due)), some (.int (nI i))] [] h1 := by
  intro g
  induction g with
  | zero =>
    intro i h1 hi e hV hT h14 h2w hQ
    have hi' : i = due := by omega
    subst hi'
    have hQ' := hQ h1 e
    rw [chk_no (by omega)] at hQ'
    rw [r98_64]
    simp only [↓r98_0, ↓r98_1, ↓r98_4, ↓r98_5, ↓r98_6, ↓r98_7, ↓r98_10, ↓r98_11, ↓r98_12, ↓r98_14, ↓r98_17, ↓r98_20, ↓r98_22, ↓r98_23, ↓r98_24, ↓r98_27, ↓r98_30, ↓r98_33, ↓r98_34, ↓r98_35, ↓r98_38, ↓r98_39, ↓r98_42, ↓r98_45, ↓r98_46, ↓r98_49, ↓r98_50, ↓r98_53, ↓r98_56, ↓r98_57, ↓r98_60, ↓r98_61, ↓r98_62, ↓r98_66, ↓r98_67, ↓r98_70, ↓r98_71, ↓r98_74, ↓r98_77, ↓r98_78, ↓r98_79, ↓r98_81, ↓r98_82, ↓r98_83, ↓r98_84, ↓r98_87, ↓r98_90, ↓r98_93, ↓r98_96, ↓r98_97, ↓r98_98, ↓r98_100, ↓r98_101, ↓r98_102, ↓r98_103, ↓r98_104, ↓r98_105, ↓r98_107, ↓r98_108, ↓r98_109, ↓r98_110, ↓r98_111, ↓r98_112, ↓r98_115, ↓r98_118, ↓r98_121, ↓r98_124, ↓r98_125, ↓r98_126, ↓r98_128, ↓r98_129, ↓r98_130, ↓r98_131, ↓r98_134, ↓r98_137, ↓r98_138, ↓r98_139, ↓r98_140, ↓r98_141, ↓r98_144, ↓r98_145, ↓r98_146, ↓r98_147, ↓r98_148, ↓r98_149, ↓r98_152, ↓r98_153, nI_nlt (Nat.le_refl i) (by omega), if_false, x2i, x1i]
    unfold ansR at hQ'
    by_cases g : w = 2 * i
    · have g1 : nI w ≤ nI (2 * i) := nI_le (by omega) (by omega)
      rw [if_pos ⟨g.symm, rfl⟩] at hQ'
      simp only [if_pos g1]
      exact hQ'
    · have g1 : ¬ nI w ≤ nI (2 * i) := by rw [nI_leI (by omega) (by omega)]; omega
      rw [if_neg (fun z => g z.1.symm)] at hQ'
      simp only [if_neg g1]
      exact hQ'
  | succ g ih =>
    intro i h1 hi e hV hT h14 h2w hQ
    have q : nI i < nI due := nI_lt (by omega) (by omega)
    have hB' := zB_stepN (τ := τ) (u := -1) hB i (by omega)
    obtain ⟨d1, d2⟩ := due_e (τ := τ) (n := n) (s := s) i
    rw [r98_64]
    simp only [↓r98_0, ↓r98_1, ↓r98_4, ↓r98_5, ↓r98_6, ↓r98_7, ↓r98_10, ↓r98_11, ↓r98_12, ↓r98_14, ↓r98_17, ↓r98_20, ↓r98_22, ↓r98_23, ↓r98_24, ↓r98_27, ↓r98_30, ↓r98_33, ↓r98_34, ↓r98_35, ↓r98_38, ↓r98_39, ↓r98_42, ↓r98_45, ↓r98_46, ↓r98_49, ↓r98_50, ↓r98_53, ↓r98_56, ↓r98_57, ↓r98_60, ↓r98_61, ↓r98_62, ↓r98_66, ↓r98_67, ↓r98_70, ↓r98_71, ↓r98_74, ↓r98_77, ↓r98_78, ↓r98_79, ↓r98_81, ↓r98_82, ↓r98_83, ↓r98_84, ↓r98_87, ↓r98_90, ↓r98_93, ↓r98_96, ↓r98_97, ↓r98_98, ↓r98_100, ↓r98_101, ↓r98_102, ↓r98_103, ↓r98_104, ↓r98_105, ↓r98_107, ↓r98_108, ↓r98_109, ↓r98_110, ↓r98_111, ↓r98_112, ↓r98_115, ↓r98_118, ↓r98_121, ↓r98_124, ↓r98_125, ↓r98_126, ↓r98_128, ↓r98_129, ↓r98_130, ↓r98_131, ↓r98_134, ↓r98_137, ↓r98_138, ↓r98_139, ↓r98_140, ↓r98_141, ↓r98_144, ↓r98_145, ↓r98_146, ↓r98_147, ↓r98_148, ↓r98_149, ↓r98_152, ↓r98_153, if_pos q, zc_10, zc_18, zc_26, zc_0, zc_1, zc_7, zc_60, Nat.reduceAdd, true_and, Option.toList, List.cons_append, List.nil_append]
    refine th_step hV hT h14 hB' e fun h2 e2 hV2 hT2 h142 => ?_
    have v8 : h2 26 8 = dueR τ n s (2 * i) := d1 ▸ hV2.1.2.2.2.1
    have v9 : h2 26 9 = dueR τ n s (2 * i + 1) := d2 ▸ hV2.1.2.2.2.2.1
    have e59 : h2 59 = h 59 := e2 _ (by omega) (by omega)
    have c99a := fun (Q' : Option Value → zH → Prop) => c99 (d := d + 5) (h := h2) (x2 := dueR τ n s (2 * i)) (Q := Q') (by omega : 2 * i < 60) hw
    have c99b := fun (Q' : Option Value → zH → Prop) => c99 (d := d + 5) (h := h2) (x2 := dueR τ n s (2 * i + 1)) (Q := Q') (by omega : 2 * i + 1 < 60) hw
    rw [e59] at c99a c99b
    have hQ' := hQ h2 e2
    rw [show 2 * (g + 1) + 1 = 2 * g + 2 + 1 by omega] at hQ'
    simp only [↓r98_0, ↓r98_1, ↓r98_4, ↓r98_5, ↓r98_6, ↓r98_7, ↓r98_10, ↓r98_11, ↓r98_12, ↓r98_14, ↓r98_17, ↓r98_20, ↓r98_22, ↓r98_23, ↓r98_24, ↓r98_27, ↓r98_30, ↓r98_33, ↓r98_34, ↓r98_35, ↓r98_38, ↓r98_39, ↓r98_42, ↓r98_45, ↓r98_46, ↓r98_49, ↓r98_50, ↓r98_53, ↓r98_56, ↓r98_57, ↓r98_60, ↓r98_61, ↓r98_62, ↓r98_66, ↓r98_67, ↓r98_70, ↓r98_71, ↓r98_74, ↓r98_77, ↓r98_78, ↓r98_79, ↓r98_81, ↓r98_82, ↓r98_83, ↓r98_84, ↓r98_87, ↓r98_90, ↓r98_93, ↓r98_96, ↓r98_97, ↓r98_98, ↓r98_100, ↓r98_101, ↓r98_102, ↓r98_103, ↓r98_104, ↓r98_105, ↓r98_107, ↓r98_108, ↓r98_109, ↓r98_110, ↓r98_111, ↓r98_112, ↓r98_115, ↓r98_118, ↓r98_121, ↓r98_124, ↓r98_125, ↓r98_126, ↓r98_128, ↓r98_129, ↓r98_130, ↓r98_131, ↓r98_134, ↓r98_137, ↓r98_138, ↓r98_139, ↓r98_140, ↓r98_141, ↓r98_144, ↓r98_145, ↓r98_146, ↓r98_147, ↓r98_148, ↓r98_149, ↓r98_152, ↓r98_153, zc_10, zc_18, zc_26, zc_0, zc_1, zc_7, zc_60, Nat.reduceAdd, true_and, Option.toList, List.cons_append, List.nil_append, v8, v9, x2i, nI_1, c99a, c99b, x1i, x3i]
    by_cases g1 : 2 * i < w ∧ h 59 (2 * i) = dueR τ n s (2 * i)
    · rw [chk_go ⟨g1.1, by omega, g1.2⟩] at hQ'
      simp (decide := true) only [if_pos g1, ↓reduceIte]
      by_cases g2 : 2 * i + 1 < w ∧ h 59 (2 * i + 1) = dueR τ n s (2 * i + 1)
      · simp (decide := true) only [if_pos g2, ↓reduceIte]
        refine ih (i + 1) h2 (by omega) e2 hV2 hT2 h142 (by omega) fun h3 e3 => ?_
        have hQ2 := hQ h3 e3
        rw [show 2 * (g + 1) + 1 = 2 * g + 2 + 1 by omega, chk_go ⟨g1.1, by omega, g1.2⟩, show 2 * g + 2 = 2 * g + 1 + 1 by omega, chk_go ⟨g2.1, by omega, g2.2⟩] at hQ2
        exact hQ2
      · rw [show 2 * g + 2 = 2 * g + 1 + 1 by omega, chk_no (fun z => g2 ⟨z.1, z.2.2⟩)] at hQ'
        unfold ansR at hQ'
        rw [if_neg (by omega), show 1 + (2 * i + 1) = 2 + 2 * i by omega] at hQ'
        simp (decide := true) only [if_neg g2, ↓reduceIte]
        exact hQ'
    · rw [chk_no (fun z => g1 ⟨z.1, z.2.2⟩)] at hQ'
      unfold ansR at hQ'
      rw [if_neg (by omega)] at hQ'
      simp (decide := true) only [if_neg g1, ↓reduceIte]
      exact hQ'
def ck (h h1 : zH) : Prop := ∀ c, c ≠ 61 → c ≠ 75 → c ≠ 76 → c ≠ 79 → h1 c = h c
theorem c197_loop1 (hT : zTR (h 61) τ) (hu : h 60 12 = -1) (hB : zB (h 61) n m) (hm : m + due ≤ 9999) (hd : due ≤ F) (hF : F ≤ 30) (hdd : due = F ∨ m + due = 9999) (hQ : ∀ h1, ck h h1 → h1 61 = stepN τ (-1) n due (h 61) → (∀ p, p < 2 * due → h1 79 p = dueR τ n (h 61) p) → zR (d + 7) 197 Q 122 [some (.ref 60), some (.int (nI F)), some (.int (nI w)), some (.int (nI (2 * due))), some (.int (nI due))] [] h1) : ∀ (g i : Nat) (h1 : zH), i + g = due → ck h h1 → h1 61 = stepN τ (-1) n i (h 61) → (∀ p, p < 2 * i → h1 79 p = dueR τ n (h 61) p) → zR (d + 7) 197 Q 65 [some (.ref 60), some (.int (nI F)), some (.int (nI w)), some (.int (nI (2 * i))), some (.int (nI i))] [] h1 := by
  have h10 := hB.1.2
  intro g
  induction g with
  | zero =>
    intro i h1 hi e e61 e79
    have hi' : i = due := by omega
    subst hi'
    have hB' := zB_stepN (τ := τ) (u := -1) hB i (by omega)
    have e2' : h1 61 2 = nI (m + i) := by rw [e61]; exact hB'.2.2.2.2.2.1
    rw [r197_65]
    simp only [↓r197_0, ↓r197_1, ↓r197_4, ↓r197_5, ↓r197_6, ↓r197_7, ↓r197_10, ↓r197_11, ↓r197_12, ↓r197_13, ↓r197_16, ↓r197_19, ↓r197_22, ↓r197_24, ↓r197_25, ↓r197_26, ↓r197_29, ↓r197_32, ↓r197_35, ↓r197_36, ↓r197_37, ↓r197_38, ↓r197_41, ↓r197_42, ↓r197_45, ↓r197_48, ↓r197_49, ↓r197_50, ↓r197_53, ↓r197_54, ↓r197_57, ↓r197_60, ↓r197_61, ↓r197_62, ↓r197_63, ↓r197_67, ↓r197_68, ↓r197_71, ↓r197_72, ↓r197_75, ↓r197_76, ↓r197_77, ↓r197_80, ↓r197_83, ↓r197_84, ↓r197_87, ↓r197_88, ↓r197_91, ↓r197_92, ↓r197_93, ↓r197_96, ↓r197_97, ↓r197_98, ↓r197_99, ↓r197_100, ↓r197_103, ↓r197_104, ↓r197_105, ↓r197_106, ↓r197_107, ↓r197_110, ↓r197_111, ↓r197_112, ↓r197_113, ↓r197_116, ↓r197_119, ↓r197_123, ↓r197_124, ↓r197_127, ↓r197_128, ↓r197_131, ↓r197_134, ↓r197_135, ↓r197_137, ↓r197_139, ↓r197_140, ↓r197_143, ↓r197_145, ↓r197_146, ↓r197_149, ↓r197_150, ↓r197_153, ↓r197_155, ↓r197_156, ↓r197_157, ↓r197_160, ↓r197_162, ↓r197_163, ↓r197_166, ↓r197_169, ↓r197_172, ↓r197_174, ↓r197_175, ↓r197_178, ↓r197_180, ↓r197_181, ↓r197_184, ↓r197_185, ↓r197_188, ↓r197_189, ↓r197_191, ↓r197_192, zl_61, zok6, zix6, true_and, e2']
    rcases hdd with g | g
    · rw [← g]
      simp only [nI_nlt (Nat.le_refl i) (by omega), if_false]
      rw [← g] at hQ
      exact hQ h1 e e61 e79
    · have q2 : ¬ nI (m + i) < 9999 := by rw [g]; decide
      simp only [if_neg q2]
      by_cases q : nI i < nI F
      · rw [if_pos q]; exact hQ h1 e e61 e79
      · rw [if_neg q]; exact hQ h1 e e61 e79
  | succ g ih =>
    intro i h1 hi e e61 e79
    have hB' := zB_stepN (τ := τ) (u := -1) hB i (by omega)
    have hBh : zB (h1 61) n (m + i) := by rw [e61]; exact hB'
    have e2' : h1 61 2 = nI (m + i) := hBh.2.2.2.2.2.1
    have q2 : nI (m + i) < 9999 := nI_lt (b := 9999) (by omega) (by omega)
    have e60 : h1 60 = h 60 := e _ (by omega) (by omega) (by omega) (by omega)
    obtain ⟨d1, d2⟩ := due_e (τ := τ) (n := n) (s := h 61) i
    rw [r197_65]
    simp only [↓r197_0, ↓r197_1, ↓r197_4, ↓r197_5, ↓r197_6, ↓r197_7, ↓r197_10, ↓r197_11, ↓r197_12, ↓r197_13, ↓r197_16, ↓r197_19, ↓r197_22, ↓r197_24, ↓r197_25, ↓r197_26, ↓r197_29, ↓r197_32, ↓r197_35, ↓r197_36, ↓r197_37, ↓r197_38, ↓r197_41, ↓r197_42, ↓r197_45, ↓r197_48, ↓r197_49, ↓r197_50, ↓r197_53, ↓r197_54, ↓r197_57, ↓r197_60, ↓r197_61, ↓r197_62, ↓r197_63, ↓r197_67, ↓r197_68, ↓r197_71, ↓r197_72, ↓r197_75, ↓r197_76, ↓r197_77, ↓r197_80, ↓r197_83, ↓r197_84, ↓r197_87, ↓r197_88, ↓r197_91, ↓r197_92, ↓r197_93, ↓r197_96, ↓r197_97, ↓r197_98, ↓r197_99, ↓r197_100, ↓r197_103, ↓r197_104, ↓r197_105, ↓r197_106, ↓r197_107, ↓r197_110, ↓r197_111, ↓r197_112, ↓r197_113, ↓r197_116, ↓r197_119, ↓r197_123, ↓r197_124, ↓r197_127, ↓r197_128, ↓r197_131, ↓r197_134, ↓r197_135, ↓r197_137, ↓r197_139, ↓r197_140, ↓r197_143, ↓r197_145, ↓r197_146, ↓r197_149, ↓r197_150, ↓r197_153, ↓r197_155, ↓r197_156, ↓r197_157, ↓r197_160, ↓r197_162, ↓r197_163, ↓r197_166, ↓r197_169, ↓r197_172, ↓r197_174, ↓r197_175, ↓r197_178, ↓r197_180, ↓r197_181, ↓r197_184, ↓r197_185, ↓r197_188, ↓r197_189, ↓r197_191, ↓r197_192, zl_61, zok6, zix6, true_and, e2', nI_lt (by omega : i < F) (by omega : F < 2 ^ 31), if_true, if_pos q2, Option.toList, List.cons_append, List.nil_append]
    refine c144 (n := n) (τ := τ) hBh.1.1 h10 (by rw [e61]; exact zTR_cong (stepN_keep h10 (Or.inr (Or.inl rfl)) i) (fun k hk => stepN_keep h10 (by omega) i) hT) hBh.2.2.2.1.1 hBh.2.2.2.1.2 hBh.2.2.2.2.1.1 hBh.2.2.2.2.1.2 (fun h2 e2 e2b => ?_)
    rw [e61, e60, hu] at e2b
    have v3 : h2 61 3 = dueR τ n (h 61) (2 * i) := by rw [d1, e2b]; rfl
    have v4 : h2 61 4 = dueR τ n (h 61) (2 * i + 1) := by rw [d2, e2b]; rfl
    have ei2 : nI (2 * i) + 2 = nI (2 * (i + 1)) := by rw [show (2 : Int32) = nI 2 from rfl, nI_add]; congr 1
    simp only [↓r197_0, ↓r197_1, ↓r197_4, ↓r197_5, ↓r197_6, ↓r197_7, ↓r197_10, ↓r197_11, ↓r197_12, ↓r197_13, ↓r197_16, ↓r197_19, ↓r197_22, ↓r197_24, ↓r197_25, ↓r197_26, ↓r197_29, ↓r197_32, ↓r197_35, ↓r197_36, ↓r197_37, ↓r197_38, ↓r197_41, ↓r197_42, ↓r197_45, ↓r197_48, ↓r197_49, ↓r197_50, ↓r197_53, ↓r197_54, ↓r197_57, ↓r197_60, ↓r197_61, ↓r197_62, ↓r197_63, ↓r197_67, ↓r197_68, ↓r197_71, ↓r197_72, ↓r197_75, ↓r197_76, ↓r197_77, ↓r197_80, ↓r197_83, ↓r197_84, ↓r197_87, ↓r197_88, ↓r197_91, ↓r197_92, ↓r197_93, ↓r197_96, ↓r197_97, ↓r197_98, ↓r197_99, ↓r197_100, ↓r197_103, ↓r197_104, ↓r197_105, ↓r197_106, ↓r197_107, ↓r197_110, ↓r197_111, ↓r197_112, ↓r197_113, ↓r197_116, ↓r197_119, ↓r197_123, ↓r197_124, ↓r197_127, ↓r197_128, ↓r197_131, ↓r197_134, ↓r197_135, ↓r197_137, ↓r197_139, ↓r197_140, ↓r197_143, ↓r197_145, ↓r197_146, ↓r197_149, ↓r197_150, ↓r197_153, ↓r197_155, ↓r197_156, ↓r197_157, ↓r197_160, ↓r197_162, ↓r197_163, ↓r197_166, ↓r197_169, ↓r197_172, ↓r197_174, ↓r197_175, ↓r197_178, ↓r197_180, ↓r197_181, ↓r197_184, ↓r197_185, ↓r197_188, ↓r197_189, ↓r197_191, ↓r197_192, Option.toList, List.cons_append, List.nil_append, nI_1, zl_61, zs_79, zok6, zix6, true_and, v3, v4, zok_nI (by omega : 2 * i < 60) (by omega), zix_nI (by omega : 2 * i < 2 ^ 31), zok_nI (by omega : 2 * i + 1 < 60) (by omega), zix_nI (by omega : 2 * i + 1 < 2 ^ 31), zhr_ne _ _ (by omega : 61 ≠ 79), zhr_same, zhr_zhr, ei2]
    refine ih (i + 1) _ (by omega) (fun c x y z w => ?_) ?_ (fun p hp => ?_)
    · rw [zhr_ne _ _ w]; exact (e2 c x y z).trans (e c x y z w)
    · rw [zhr_ne _ _ (by omega)]; exact e2b
    · rw [zhr_same, zup_ap, zup_ap]
      by_cases g1 : p = 2 * i + 1
      · rw [if_pos g1, g1]
      · rw [if_neg g1]
        by_cases g2 : p = 2 * i
        · rw [if_pos g2, g2]
        · rw [if_neg g2, e2 79 (by omega) (by omega) (by omega)]
          exact e79 p (by omega)
theorem c197_loop2 (hw : w ≤ 60) (hE : E ≤ 60) (hT : ∀ p, p < 60 → T p = h 78 p) (hD : ∀ p, p < E → h 79 p = D p) (hQ : ∀ k, k ≤ E → Q (some (.int (ansR w E k))) h → zR (d + 7) 197 Q 172 [some (.ref 60), some (.int x0), some (.int (nI w)), some (.int (nI E)), some (.int (nI k))] [] h) : ∀ (f k : Nat), E < k + f → k ≤ E → Q (some (.int (ansR w E (chkR T D w E f k)))) h → zR (d + 7) 197 Q 137 [some (.ref 60), some (.int x0), some (.int (nI w)), some (.int (nI E)), some (.int (nI k))] [] h := by
  intro f
  induction f with
  | zero => intro k h1 h2; omega
  | succ f ih =>
    intro k hk hkE q
    rw [r197_137]
    simp only [↓r197_0, ↓r197_1, ↓r197_4, ↓r197_5, ↓r197_6, ↓r197_7, ↓r197_10, ↓r197_11, ↓r197_12, ↓r197_13, ↓r197_16, ↓r197_19, ↓r197_22, ↓r197_24, ↓r197_25, ↓r197_26, ↓r197_29, ↓r197_32, ↓r197_35, ↓r197_36, ↓r197_37, ↓r197_38, ↓r197_41, ↓r197_42, ↓r197_45, ↓r197_48, ↓r197_49, ↓r197_50, ↓r197_53, ↓r197_54, ↓r197_57, ↓r197_60, ↓r197_61, ↓r197_62, ↓r197_63, ↓r197_65, ↓r197_67, ↓r197_68, ↓r197_71, ↓r197_72, ↓r197_75, ↓r197_76, ↓r197_77, ↓r197_80, ↓r197_83, ↓r197_84, ↓r197_87, ↓r197_88, ↓r197_91, ↓r197_92, ↓r197_93, ↓r197_96, ↓r197_97, ↓r197_98, ↓r197_99, ↓r197_100, ↓r197_103, ↓r197_104, ↓r197_105, ↓r197_106, ↓r197_107, ↓r197_110, ↓r197_111, ↓r197_112, ↓r197_113, ↓r197_116, ↓r197_119, ↓r197_122, ↓r197_123, ↓r197_124, ↓r197_127, ↓r197_128, ↓r197_131, ↓r197_134, ↓r197_135, ↓r197_139, ↓r197_140, ↓r197_143, ↓r197_145, ↓r197_146, ↓r197_149, ↓r197_150, ↓r197_153, ↓r197_155, ↓r197_156, ↓r197_157, ↓r197_160, ↓r197_162, ↓r197_163, ↓r197_166, ↓r197_169, ↓r197_174, ↓r197_175, ↓r197_178, ↓r197_180, ↓r197_181, ↓r197_184, ↓r197_185, ↓r197_188, ↓r197_189, ↓r197_191, ↓r197_192, nI_ltk (by omega : k < 2 ^ 31) (by omega : w < 2 ^ 31), nI_ltk (by omega : k < 2 ^ 31) (by omega : E < 2 ^ 31)]
    by_cases g : k < w ∧ k < E ∧ T k = D k
    · rw [chk_go g] at q
      have e1 : h 78 k = h 79 k := by rw [← hT k (by omega), hD k g.2.1]; exact g.2.2
      simp only [if_pos g.1, if_pos g.2.1, zl_78, zl_79, zok_nI (by omega : k < 60) (by omega), zix_nI (by omega : k < 2 ^ 31), true_and, if_pos e1, nI_1]
      exact ih (k + 1) (by omega) (by omega) q
    · rw [chk_no g] at q
      have hq := hQ k hkE q
      by_cases g1 : k < w
      · by_cases g2 : k < E
        · have e1 : ¬ h 78 k = h 79 k := by rw [← hT k (by omega), hD k g2]; exact fun z => g ⟨g1, g2, z⟩
          simp only [if_pos g1, if_pos g2, zl_78, zl_79, zok_nI (by omega : k < 60) (by omega), zix_nI (by omega : k < 2 ^ 31), true_and, if_neg e1]
          exact hq
        · simp only [if_pos g1, if_neg g2]
          exact hq
      · simp only [if_neg g1]
        exact hq
theorem zTR_cong2 (er : ∀ k, k < 2862 → row' k = row k) (hT : zTR row τ) : zTR row' τ := by
  obtain ⟨n, hn, h1, hk⟩ := hT
  refine ⟨n, hn, by rw [er 1 (by omega)]; exact h1, fun key hkey => ?_⟩
  rw [lastT_cong2 hn er]
  rcases hk key hkey with a | ⟨t, m, w, q1, q2, q3, q4, q5, q6, q7⟩
  · exact Or.inl a
  · refine Or.inr ⟨t, m, w, q1, q2, q3, by rw [er _ (by omega)]; exact q4, fun i hi => ?_, q6, q7⟩
    rw [er _ (by omega), er _ (by omega)]
    exact q5 i hi
theorem p_check : zPair (d + 20) (d + 20) 98 197 [.int x0] := by
  intro h Q2 hR hQ
  obtain ⟨n, m, N, hRN⟩ := hR
  obtain ⟨⟨hSt, hm⟩, hu, ⟨i1, i2⟩, -, -, ⟨hw, ⟨w, hw60, hww⟩, hnn⟩, -⟩ := id hRN
  have hw' : h 60 31 = nI w := hw.symm.trans hww
  rw [m98]
  simp only [↓r98_0, ↓r98_1, ↓r98_4, ↓r98_5, ↓r98_6, ↓r98_7, ↓r98_10, ↓r98_11, ↓r98_12, ↓r98_14, ↓r98_17, ↓r98_20, ↓r98_22, ↓r98_23, ↓r98_24, ↓r98_30, ↓r98_33, ↓r98_34, ↓r98_35, ↓r98_38, ↓r98_39, ↓r98_42, ↓r98_45, ↓r98_46, ↓r98_49, ↓r98_50, ↓r98_53, ↓r98_56, ↓r98_57, ↓r98_60, ↓r98_61, ↓r98_62, ↓r98_66, ↓r98_67, ↓r98_70, ↓r98_71, ↓r98_74, ↓r98_77, ↓r98_78, ↓r98_79, ↓r98_81, ↓r98_82, ↓r98_83, ↓r98_84, ↓r98_87, ↓r98_90, ↓r98_93, ↓r98_96, ↓r98_97, ↓r98_98, ↓r98_100, ↓r98_101, ↓r98_102, ↓r98_103, ↓r98_104, ↓r98_105, ↓r98_107, ↓r98_108, ↓r98_109, ↓r98_110, ↓r98_111, ↓r98_112, ↓r98_115, ↓r98_118, ↓r98_121, ↓r98_124, ↓r98_125, ↓r98_126, ↓r98_128, ↓r98_129, ↓r98_130, ↓r98_131, ↓r98_134, ↓r98_137, ↓r98_138, ↓r98_139, ↓r98_140, ↓r98_141, ↓r98_144, ↓r98_145, ↓r98_146, ↓r98_147, ↓r98_148, ↓r98_149, ↓r98_152, ↓r98_153, zc_10, zc_18, zc_26, zc_0, zc_1, zc_7, zc_60, Nat.reduceAdd, true_and, c103, hww, Option.toList, List.cons_append, List.nil_append]
  have hend : ∀ h2 v, (∀ c, ¬ (26 ≤ c ∧ c ≤ 33) → c ≠ 0 → c ≠ 6 → c ≠ 60 → c ≠ 63 → c ≠ 75 → c ≠ 76 → c ≠ 79 → h2 c = h c) → h2 0 = upd (h 0) 9 0 → h2 60 = upd (h 60) 31 0 → zPq v Q2 (some (.int v)) h2 := fun h2 v e e0 e60 =>
    zPq_in rfl (hQ _ _ ⟨n, m, N, zRel_ck hRN e e0 e60⟩ (e _ (by omega) (by omega) (by omega) (by omega) (by omega) (by omega) (by omega) (by omega)) (e _ (by omega) (by omega) (by omega) (by omega) (by omega) (by omega) (by omega) (by omega)))
  have h60 : ∀ r, zhr h 0 r 60 = h 60 := fun r => zhr_ne _ _ (by omega)
  by_cases g0 : 1 ≤ x0 ∧ x0 ≤ 30
  · simp (decide := true) only [if_pos g0, ↓reduceIte]
    rw [r98_27, zhr_same, pk_un (by omega)]
    rcases i2 with i2 | ⟨i2, n', m', N', hSi, hm', hN'⟩
    · rw [if_pos i2]
      simp only [↓r98_0, ↓r98_1, ↓r98_4, ↓r98_5, ↓r98_6, ↓r98_7, ↓r98_10, ↓r98_11, ↓r98_12, ↓r98_14, ↓r98_17, ↓r98_20, ↓r98_22, ↓r98_23, ↓r98_24, ↓r98_27, ↓r98_30, ↓r98_33, ↓r98_34, ↓r98_35, ↓r98_38, ↓r98_39, ↓r98_42, ↓r98_45, ↓r98_46, ↓r98_49, ↓r98_50, ↓r98_53, ↓r98_56, ↓r98_57, ↓r98_60, ↓r98_61, ↓r98_62, ↓r98_66, ↓r98_67, ↓r98_70, ↓r98_71, ↓r98_74, ↓r98_77, ↓r98_78, ↓r98_79, ↓r98_81, ↓r98_82, ↓r98_83, ↓r98_84, ↓r98_87, ↓r98_90, ↓r98_93, ↓r98_96, ↓r98_97, ↓r98_98, ↓r98_100, ↓r98_101, ↓r98_102, ↓r98_103, ↓r98_104, ↓r98_105, ↓r98_107, ↓r98_108, ↓r98_109, ↓r98_110, ↓r98_111, ↓r98_112, ↓r98_115, ↓r98_118, ↓r98_121, ↓r98_124, ↓r98_125, ↓r98_126, ↓r98_128, ↓r98_129, ↓r98_130, ↓r98_131, ↓r98_134, ↓r98_137, ↓r98_138, ↓r98_139, ↓r98_140, ↓r98_141, ↓r98_144, ↓r98_145, ↓r98_146, ↓r98_147, ↓r98_148, ↓r98_149, ↓r98_152, ↓r98_153, zc_10, zc_18, zc_26, zc_0, zc_1, zc_7, zc_60, Nat.reduceAdd, true_and, Option.toList, List.cons_append, List.nil_append]
      refine zPo_in (by rw [zhr_ne _ _ (by omega)]) (by rw [zhr_ne _ _ (by omega)]) ?_
      rw [m197]
      simp (decide := true) only [↓r197_0, ↓r197_1, ↓r197_4, ↓r197_5, ↓r197_6, ↓r197_7, ↓r197_10, ↓r197_11, ↓r197_12, ↓r197_13, ↓r197_16, ↓r197_19, ↓r197_22, ↓r197_24, ↓r197_25, ↓r197_26, ↓r197_32, ↓r197_35, ↓r197_36, ↓r197_37, ↓r197_38, ↓r197_41, ↓r197_42, ↓r197_45, ↓r197_48, ↓r197_49, ↓r197_50, ↓r197_53, ↓r197_54, ↓r197_57, ↓r197_60, ↓r197_61, ↓r197_62, ↓r197_63, ↓r197_67, ↓r197_68, ↓r197_71, ↓r197_72, ↓r197_75, ↓r197_76, ↓r197_77, ↓r197_80, ↓r197_83, ↓r197_84, ↓r197_87, ↓r197_88, ↓r197_91, ↓r197_92, ↓r197_93, ↓r197_96, ↓r197_97, ↓r197_98, ↓r197_99, ↓r197_100, ↓r197_103, ↓r197_104, ↓r197_105, ↓r197_106, ↓r197_107, ↓r197_110, ↓r197_111, ↓r197_112, ↓r197_113, ↓r197_116, ↓r197_119, ↓r197_123, ↓r197_124, ↓r197_127, ↓r197_128, ↓r197_131, ↓r197_134, ↓r197_135, ↓r197_137, ↓r197_139, ↓r197_140, ↓r197_143, ↓r197_145, ↓r197_146, ↓r197_149, ↓r197_150, ↓r197_153, ↓r197_155, ↓r197_156, ↓r197_157, ↓r197_160, ↓r197_162, ↓r197_163, ↓r197_166, ↓r197_169, ↓r197_172, ↓r197_174, ↓r197_175, ↓r197_178, ↓r197_180, ↓r197_181, ↓r197_184, ↓r197_185, ↓r197_188, ↓r197_189, ↓r197_191, ↓r197_192, c106, if_pos g0, ↓reduceIte, Option.toList, List.cons_append, List.nil_append, h60, hw']
      rw [r197_29, zhr_same, pk_un (by omega), if_pos (i1.symm.trans i2)]
      simp only [↓r197_0, ↓r197_1, ↓r197_4, ↓r197_5, ↓r197_6, ↓r197_7, ↓r197_10, ↓r197_11, ↓r197_12, ↓r197_13, ↓r197_16, ↓r197_19, ↓r197_22, ↓r197_24, ↓r197_25, ↓r197_26, ↓r197_32, ↓r197_35, ↓r197_36, ↓r197_37, ↓r197_38, ↓r197_41, ↓r197_42, ↓r197_45, ↓r197_48, ↓r197_49, ↓r197_50, ↓r197_53, ↓r197_54, ↓r197_57, ↓r197_60, ↓r197_61, ↓r197_62, ↓r197_63, ↓r197_67, ↓r197_68, ↓r197_71, ↓r197_72, ↓r197_75, ↓r197_76, ↓r197_77, ↓r197_80, ↓r197_83, ↓r197_84, ↓r197_87, ↓r197_88, ↓r197_91, ↓r197_92, ↓r197_93, ↓r197_96, ↓r197_97, ↓r197_98, ↓r197_99, ↓r197_100, ↓r197_103, ↓r197_104, ↓r197_105, ↓r197_106, ↓r197_107, ↓r197_110, ↓r197_111, ↓r197_112, ↓r197_113, ↓r197_116, ↓r197_119, ↓r197_123, ↓r197_124, ↓r197_127, ↓r197_128, ↓r197_131, ↓r197_134, ↓r197_135, ↓r197_137, ↓r197_139, ↓r197_140, ↓r197_143, ↓r197_145, ↓r197_146, ↓r197_149, ↓r197_150, ↓r197_153, ↓r197_155, ↓r197_156, ↓r197_157, ↓r197_160, ↓r197_162, ↓r197_163, ↓r197_166, ↓r197_169, ↓r197_172, ↓r197_174, ↓r197_175, ↓r197_178, ↓r197_180, ↓r197_181, ↓r197_184, ↓r197_185, ↓r197_188, ↓r197_189, ↓r197_191, ↓r197_192, Option.toList, List.cons_append, List.nil_append]
      exact hend _ _ (fun c a b c d e f g h => by rw [zhr_ne _ _ d, zhr_ne _ _ b]) (by rw [zhr_ne _ _ (by omega), zhr_same]) (by rw [zhr_same])
    · rw [i2, if_neg (by decide)]
      simp only [↓r98_0, ↓r98_1, ↓r98_4, ↓r98_5, ↓r98_6, ↓r98_7, ↓r98_10, ↓r98_11, ↓r98_12, ↓r98_14, ↓r98_17, ↓r98_20, ↓r98_22, ↓r98_23, ↓r98_24, ↓r98_27, ↓r98_30, ↓r98_33, ↓r98_34, ↓r98_35, ↓r98_38, ↓r98_39, ↓r98_42, ↓r98_45, ↓r98_46, ↓r98_49, ↓r98_50, ↓r98_53, ↓r98_56, ↓r98_57, ↓r98_60, ↓r98_61, ↓r98_62, ↓r98_66, ↓r98_67, ↓r98_70, ↓r98_71, ↓r98_74, ↓r98_77, ↓r98_78, ↓r98_79, ↓r98_81, ↓r98_82, ↓r98_83, ↓r98_84, ↓r98_87, ↓r98_90, ↓r98_93, ↓r98_96, ↓r98_97, ↓r98_98, ↓r98_100, ↓r98_101, ↓r98_102, ↓r98_103, ↓r98_104, ↓r98_105, ↓r98_107, ↓r98_108, ↓r98_109, ↓r98_110, ↓r98_111, ↓r98_112, ↓r98_115, ↓r98_118, ↓r98_121, ↓r98_124, ↓r98_125, ↓r98_126, ↓r98_128, ↓r98_129, ↓r98_130, ↓r98_131, ↓r98_134, ↓r98_137, ↓r98_138, ↓r98_139, ↓r98_140, ↓r98_141, ↓r98_144, ↓r98_145, ↓r98_146, ↓r98_147, ↓r98_148, ↓r98_149, ↓r98_152, ↓r98_153, zc_10, zc_18, zc_26, zc_0, zc_1, zc_7, zc_60, Nat.reduceAdd, true_and, Option.toList, List.cons_append, List.nil_append]
      obtain ⟨F, hF, rfl⟩ := nI_of2 (M := 30) (n := 30) (by decide) (by have := g0.1; grind) g0.2
      obtain ⟨hTCi, hTRi⟩ := zSt_tau hSi
      obtain ⟨s', hs'⟩ : ∃ s' : Nat → Int32, s' = fun k => if k < 2862 then h 62 k else h 61 k := ⟨_, rfl⟩
      have hsk : ∀ k, k < 2862 → s' k = h 62 k := fun k hk => by rw [hs']; exact if_pos hk
      have hVi : zV h 18 s' := zV_cong hSi.1 (fun k hk => hsk k (by omega))
      have hBi : zB s' n' m' := zB_cong (fun k hk => hsk k (by omega)) hSi.2.1
      have hTRi' : zTR s' (zTauOf h 18) := zTR_cong2 hsk hTRi
      have hV0 : zV (zhr h 0 (upd (h 0) 9 0)) 18 s' := zV_rows hVi (zhr_ne _ _ (by omega)) (fun j hj => zhr_ne _ _ (by omega))
      have hT0 : zTC (zhr h 0 (upd (h 0) 9 0)) 18 (zTauOf h 18) := zTC_o (zhr_ne _ _ (by omega)) (zhr_ne _ _ (by omega)) (zhr_ne _ _ (by omega)) hTCi
      refine th_become hV0 hT0 (by rw [zhr_ne _ _ (by omega)]; exact hSi.2.2.2.2.2) (Or.inr rfl) td_rf fun h1 e1 hV1 hT1 h14 => ?_
      have v10 : h1 26 10 = nI m' := hV1.1.2.2.1.trans hBi.2.2.2.2.2.1
      have e10 : (9999 : Int32) - nI m' = nI (9999 - m') := nI_sub (a := 9999) hm'
      simp only [↓r98_0, ↓r98_1, ↓r98_4, ↓r98_5, ↓r98_6, ↓r98_7, ↓r98_10, ↓r98_11, ↓r98_12, ↓r98_14, ↓r98_17, ↓r98_20, ↓r98_22, ↓r98_23, ↓r98_24, ↓r98_27, ↓r98_30, ↓r98_33, ↓r98_34, ↓r98_35, ↓r98_38, ↓r98_39, ↓r98_42, ↓r98_45, ↓r98_46, ↓r98_49, ↓r98_50, ↓r98_53, ↓r98_56, ↓r98_57, ↓r98_60, ↓r98_61, ↓r98_62, ↓r98_66, ↓r98_67, ↓r98_70, ↓r98_71, ↓r98_74, ↓r98_77, ↓r98_78, ↓r98_79, ↓r98_81, ↓r98_82, ↓r98_83, ↓r98_84, ↓r98_87, ↓r98_90, ↓r98_93, ↓r98_96, ↓r98_97, ↓r98_98, ↓r98_100, ↓r98_101, ↓r98_102, ↓r98_103, ↓r98_104, ↓r98_105, ↓r98_107, ↓r98_108, ↓r98_109, ↓r98_110, ↓r98_111, ↓r98_112, ↓r98_115, ↓r98_118, ↓r98_121, ↓r98_124, ↓r98_125, ↓r98_126, ↓r98_128, ↓r98_129, ↓r98_130, ↓r98_131, ↓r98_134, ↓r98_137, ↓r98_138, ↓r98_139, ↓r98_140, ↓r98_141, ↓r98_144, ↓r98_145, ↓r98_146, ↓r98_147, ↓r98_148, ↓r98_149, ↓r98_152, ↓r98_153, zc_10, zc_18, zc_26, zc_0, zc_1, zc_7, zc_60, Nat.reduceAdd, true_and, Option.toList, List.cons_append, List.nil_append, v10, m1001, e10, nI_ltk (by omega : 9999 - m' < 2 ^ 31) (by omega : F < 2 ^ 31)]
      obtain ⟨due, hdu⟩ : ∃ f, f = if 9999 - m' < F then 9999 - m' else F := ⟨_, rfl⟩
      have hdu' : (if 9999 - m' < F then nI (9999 - m') else nI F) = nI due := by
        rw [hdu]
        by_cases g : 9999 - m' < F
        · rw [if_pos g, if_pos g]
        · rw [if_neg g, if_neg g]
      have hdu1 : due ≤ F ∧ m' + due ≤ 9999 ∧ (due = F ∨ m' + due = 9999) := by
        by_cases g : 9999 - m' < F
        · rw [if_pos g] at hdu; omega
        · rw [if_neg g] at hdu; omega
      rw [hdu', ← nI_0]
      refine c98_loop (d := d + 12) (h := zhr h 0 (upd (h 0) 9 (nI 0))) (n := n') (m := m') (τ := zTauOf h 18) (s := s') hBi (by omega) hm' hw60 due 0 h1 (by omega) e1 hV1 hT1 h14 (by omega) fun h2 e2 => ?_
      have o2 : ∀ c, ¬ (26 ≤ c ∧ c ≤ 33) → c ≠ 6 → c ≠ 0 → h2 c = h c := fun c a b z => (e2 c a b).trans (zhr_ne _ _ z)
      have o20 : h2 0 = upd (h 0) 9 0 := (e2 0 (by omega) (by omega)).trans (zhr_same _ _ _)
      refine zPo_in (o2 _ (by omega) (by omega) (by omega)) (o2 _ (by omega) (by omega) (by omega)) ?_
      rw [zhr_ne _ _ (by omega : 59 ≠ 0), Nat.mul_zero]
      rw [m197]
      simp (decide := true) only [↓r197_0, ↓r197_1, ↓r197_4, ↓r197_5, ↓r197_6, ↓r197_7, ↓r197_10, ↓r197_11, ↓r197_12, ↓r197_13, ↓r197_16, ↓r197_19, ↓r197_22, ↓r197_24, ↓r197_25, ↓r197_26, ↓r197_32, ↓r197_35, ↓r197_36, ↓r197_37, ↓r197_38, ↓r197_41, ↓r197_42, ↓r197_45, ↓r197_48, ↓r197_49, ↓r197_50, ↓r197_53, ↓r197_54, ↓r197_57, ↓r197_60, ↓r197_61, ↓r197_62, ↓r197_63, ↓r197_67, ↓r197_68, ↓r197_71, ↓r197_72, ↓r197_75, ↓r197_76, ↓r197_77, ↓r197_80, ↓r197_83, ↓r197_84, ↓r197_87, ↓r197_88, ↓r197_91, ↓r197_92, ↓r197_93, ↓r197_96, ↓r197_97, ↓r197_98, ↓r197_99, ↓r197_100, ↓r197_103, ↓r197_104, ↓r197_105, ↓r197_106, ↓r197_107, ↓r197_110, ↓r197_111, ↓r197_112, ↓r197_113, ↓r197_116, ↓r197_119, ↓r197_123, ↓r197_124, ↓r197_127, ↓r197_128, ↓r197_131, ↓r197_134, ↓r197_135, ↓r197_137, ↓r197_139, ↓r197_140, ↓r197_143, ↓r197_145, ↓r197_146, ↓r197_149, ↓r197_150, ↓r197_153, ↓r197_155, ↓r197_156, ↓r197_157, ↓r197_160, ↓r197_162, ↓r197_163, ↓r197_166, ↓r197_169, ↓r197_172, ↓r197_174, ↓r197_175, ↓r197_178, ↓r197_180, ↓r197_181, ↓r197_184, ↓r197_185, ↓r197_188, ↓r197_189, ↓r197_191, ↓r197_192, c106, if_pos g0, ↓reduceIte, Option.toList, List.cons_append, List.nil_append, o2 60 (by omega) (by omega) (by omega), hw']
      rw [r197_29, zhr_same, pk_un (by omega), ← i1, i2, if_neg (by decide)]
      simp only [↓r197_0, ↓r197_1, ↓r197_4, ↓r197_5, ↓r197_6, ↓r197_7, ↓r197_10, ↓r197_11, ↓r197_12, ↓r197_13, ↓r197_16, ↓r197_19, ↓r197_22, ↓r197_24, ↓r197_25, ↓r197_26, ↓r197_29, ↓r197_32, ↓r197_35, ↓r197_36, ↓r197_37, ↓r197_38, ↓r197_41, ↓r197_42, ↓r197_45, ↓r197_48, ↓r197_49, ↓r197_50, ↓r197_53, ↓r197_54, ↓r197_57, ↓r197_60, ↓r197_61, ↓r197_62, ↓r197_63, ↓r197_67, ↓r197_68, ↓r197_71, ↓r197_72, ↓r197_75, ↓r197_76, ↓r197_77, ↓r197_80, ↓r197_83, ↓r197_84, ↓r197_87, ↓r197_88, ↓r197_91, ↓r197_92, ↓r197_93, ↓r197_96, ↓r197_97, ↓r197_98, ↓r197_99, ↓r197_100, ↓r197_103, ↓r197_104, ↓r197_105, ↓r197_106, ↓r197_107, ↓r197_110, ↓r197_111, ↓r197_112, ↓r197_113, ↓r197_116, ↓r197_119, ↓r197_123, ↓r197_124, ↓r197_127, ↓r197_128, ↓r197_131, ↓r197_134, ↓r197_135, ↓r197_137, ↓r197_139, ↓r197_140, ↓r197_143, ↓r197_145, ↓r197_146, ↓r197_149, ↓r197_150, ↓r197_153, ↓r197_155, ↓r197_156, ↓r197_157, ↓r197_160, ↓r197_162, ↓r197_163, ↓r197_166, ↓r197_169, ↓r197_172, ↓r197_174, ↓r197_175, ↓r197_178, ↓r197_180, ↓r197_181, ↓r197_184, ↓r197_185, ↓r197_188, ↓r197_189, ↓r197_191, ↓r197_192, Option.toList, List.cons_append, List.nil_append]
      refine c196 (Or.inl ⟨rfl, rfl⟩) ?_
      simp only [↓r197_0, ↓r197_1, ↓r197_4, ↓r197_5, ↓r197_6, ↓r197_7, ↓r197_10, ↓r197_11, ↓r197_12, ↓r197_13, ↓r197_16, ↓r197_19, ↓r197_22, ↓r197_24, ↓r197_25, ↓r197_26, ↓r197_29, ↓r197_32, ↓r197_35, ↓r197_36, ↓r197_37, ↓r197_38, ↓r197_41, ↓r197_42, ↓r197_45, ↓r197_48, ↓r197_49, ↓r197_50, ↓r197_53, ↓r197_54, ↓r197_57, ↓r197_60, ↓r197_61, ↓r197_62, ↓r197_63, ↓r197_67, ↓r197_68, ↓r197_71, ↓r197_72, ↓r197_75, ↓r197_76, ↓r197_77, ↓r197_80, ↓r197_83, ↓r197_84, ↓r197_87, ↓r197_88, ↓r197_91, ↓r197_92, ↓r197_93, ↓r197_96, ↓r197_97, ↓r197_98, ↓r197_99, ↓r197_100, ↓r197_103, ↓r197_104, ↓r197_105, ↓r197_106, ↓r197_107, ↓r197_110, ↓r197_111, ↓r197_112, ↓r197_113, ↓r197_116, ↓r197_119, ↓r197_123, ↓r197_124, ↓r197_127, ↓r197_128, ↓r197_131, ↓r197_134, ↓r197_135, ↓r197_137, ↓r197_139, ↓r197_140, ↓r197_143, ↓r197_145, ↓r197_146, ↓r197_149, ↓r197_150, ↓r197_153, ↓r197_155, ↓r197_156, ↓r197_157, ↓r197_160, ↓r197_162, ↓r197_163, ↓r197_166, ↓r197_169, ↓r197_172, ↓r197_174, ↓r197_175, ↓r197_178, ↓r197_180, ↓r197_181, ↓r197_184, ↓r197_185, ↓r197_188, ↓r197_189, ↓r197_191, ↓r197_192, Option.toList, List.cons_append, List.nil_append]
      refine c196 (Or.inr (Or.inl ⟨rfl, rfl⟩)) ?_
      simp only [↓r197_0, ↓r197_1, ↓r197_4, ↓r197_5, ↓r197_6, ↓r197_7, ↓r197_10, ↓r197_11, ↓r197_12, ↓r197_13, ↓r197_16, ↓r197_19, ↓r197_22, ↓r197_24, ↓r197_25, ↓r197_26, ↓r197_29, ↓r197_32, ↓r197_35, ↓r197_36, ↓r197_37, ↓r197_38, ↓r197_41, ↓r197_42, ↓r197_45, ↓r197_48, ↓r197_49, ↓r197_50, ↓r197_53, ↓r197_54, ↓r197_57, ↓r197_60, ↓r197_61, ↓r197_62, ↓r197_63, ↓r197_67, ↓r197_68, ↓r197_71, ↓r197_72, ↓r197_75, ↓r197_76, ↓r197_77, ↓r197_80, ↓r197_83, ↓r197_84, ↓r197_87, ↓r197_88, ↓r197_91, ↓r197_92, ↓r197_93, ↓r197_96, ↓r197_97, ↓r197_98, ↓r197_99, ↓r197_100, ↓r197_103, ↓r197_104, ↓r197_105, ↓r197_106, ↓r197_107, ↓r197_110, ↓r197_111, ↓r197_112, ↓r197_113, ↓r197_116, ↓r197_119, ↓r197_123, ↓r197_124, ↓r197_127, ↓r197_128, ↓r197_131, ↓r197_134, ↓r197_135, ↓r197_137, ↓r197_139, ↓r197_140, ↓r197_143, ↓r197_145, ↓r197_146, ↓r197_149, ↓r197_150, ↓r197_153, ↓r197_155, ↓r197_156, ↓r197_157, ↓r197_160, ↓r197_162, ↓r197_163, ↓r197_166, ↓r197_169, ↓r197_172, ↓r197_174, ↓r197_175, ↓r197_178, ↓r197_180, ↓r197_181, ↓r197_184, ↓r197_185, ↓r197_188, ↓r197_189, ↓r197_191, ↓r197_192, Option.toList, List.cons_append, List.nil_append]
      obtain ⟨hb, hhb⟩ : ∃ hb, hb = (zhr (zhr (zhr h2 60 (upd (h 60) 31 0)) 63 fun k => if k < 2862 then zhr h2 60 (upd (h 60) 31 0) 61 k else zhr h2 60 (upd (h 60) 31 0) 63 k) 61 fun k => if k < 2862 then zhr (zhr h2 60 (upd (h 60) 31 0)) 63 (fun k => if k < 2862 then zhr h2 60 (upd (h 60) 31 0) 61 k else zhr h2 60 (upd (h 60) 31 0) 63 k) 62 k else zhr (zhr h2 60 (upd (h 60) 31 0)) 63 (fun k => if k < 2862 then zhr h2 60 (upd (h 60) 31 0) 61 k else zhr h2 60 (upd (h 60) 31 0) 63 k) 61 k) := ⟨_, rfl⟩
      rw [← hhb]
      have ob : ∀ c, ¬ (26 ≤ c ∧ c ≤ 33) → c ≠ 6 → c ≠ 0 → c ≠ 60 → c ≠ 61 → c ≠ 63 → hb c = h c := by
        intro c a1 a2 a3 a4 a5 a6
        rw [hhb, zhr_ne _ _ a5, zhr_ne _ _ a6, zhr_ne _ _ a4]
        exact o2 c a1 a2 a3
      have ob61 : hb 61 = s' := by
        rw [hhb, zhr_same, hs']
        funext k
        rw [zhr_ne _ _ (by omega : 62 ≠ 63), zhr_ne _ _ (by omega : 62 ≠ 60), zhr_ne _ _ (by omega : 61 ≠ 63), zhr_ne _ _ (by omega : 61 ≠ 60), o2 62 (by omega) (by omega) (by omega), o2 61 (by omega) (by omega) (by omega)]
      have ob60 : hb 60 = upd (h 60) 31 0 := by
        rw [hhb, zhr_ne _ _ (by omega), zhr_ne _ _ (by omega), zhr_same]
      have ob63 : ∀ k, k < 2862 → hb 63 k = h 61 k := by
        intro k hk
        rw [hhb, zhr_ne _ _ (by omega), zhr_same, if_pos hk, zhr_ne _ _ (by omega), o2 61 (by omega) (by omega) (by omega)]
      have ob0 : hb 0 = upd (h 0) 9 0 := by
        rw [hhb, zhr_ne _ _ (by omega), zhr_ne _ _ (by omega), zhr_ne _ _ (by omega)]
        exact o20
      have key := c197_loop1 (d := d + 12) (h := hb) (τ := zTauOf h 18) (n := n') (m := m') (due := due) (F := F) (w := w) (Q := zPq (ansR w (2 * due) (chkR (h 59) (dueR (zTauOf h 18) n' s') w (2 * due) (2 * due + 1) 0)) Q2) (by rw [ob61]; exact hTRi') (by rw [ob60, pk_un (by omega)]; exact hu) (by rw [ob61]; exact hBi) (by omega) hdu1.1 hF hdu1.2.2 (fun h3 e3 e3b e3c => ?_) due 0 hb (by omega) (fun _ _ _ _ _ => rfl) rfl (fun p hp => absurd hp (by omega))
      · exact key
      · rw [ob61] at e3b e3c
        simp only [↓r197_0, ↓r197_1, ↓r197_4, ↓r197_5, ↓r197_6, ↓r197_7, ↓r197_10, ↓r197_11, ↓r197_12, ↓r197_13, ↓r197_16, ↓r197_19, ↓r197_22, ↓r197_24, ↓r197_25, ↓r197_26, ↓r197_29, ↓r197_32, ↓r197_35, ↓r197_36, ↓r197_37, ↓r197_38, ↓r197_41, ↓r197_42, ↓r197_45, ↓r197_48, ↓r197_49, ↓r197_50, ↓r197_53, ↓r197_54, ↓r197_57, ↓r197_60, ↓r197_61, ↓r197_62, ↓r197_63, ↓r197_67, ↓r197_68, ↓r197_71, ↓r197_72, ↓r197_75, ↓r197_76, ↓r197_77, ↓r197_80, ↓r197_83, ↓r197_84, ↓r197_87, ↓r197_88, ↓r197_91, ↓r197_92, ↓r197_93, ↓r197_96, ↓r197_97, ↓r197_98, ↓r197_99, ↓r197_100, ↓r197_103, ↓r197_104, ↓r197_105, ↓r197_106, ↓r197_107, ↓r197_110, ↓r197_111, ↓r197_112, ↓r197_113, ↓r197_116, ↓r197_119, ↓r197_122, ↓r197_123, ↓r197_124, ↓r197_127, ↓r197_128, ↓r197_131, ↓r197_134, ↓r197_135, ↓r197_139, ↓r197_140, ↓r197_143, ↓r197_145, ↓r197_146, ↓r197_149, ↓r197_150, ↓r197_153, ↓r197_155, ↓r197_156, ↓r197_157, ↓r197_160, ↓r197_162, ↓r197_163, ↓r197_166, ↓r197_169, ↓r197_172, ↓r197_174, ↓r197_175, ↓r197_178, ↓r197_180, ↓r197_181, ↓r197_184, ↓r197_185, ↓r197_188, ↓r197_189, ↓r197_191, ↓r197_192, Option.toList, List.cons_append, List.nil_append]
        refine c196 (Or.inr (Or.inr (Or.inl ⟨rfl, rfl⟩))) ?_
        simp only [↓r197_0, ↓r197_1, ↓r197_4, ↓r197_5, ↓r197_6, ↓r197_7, ↓r197_10, ↓r197_11, ↓r197_12, ↓r197_13, ↓r197_16, ↓r197_19, ↓r197_22, ↓r197_24, ↓r197_25, ↓r197_26, ↓r197_29, ↓r197_32, ↓r197_35, ↓r197_36, ↓r197_37, ↓r197_38, ↓r197_41, ↓r197_42, ↓r197_45, ↓r197_48, ↓r197_49, ↓r197_50, ↓r197_53, ↓r197_54, ↓r197_57, ↓r197_60, ↓r197_61, ↓r197_62, ↓r197_63, ↓r197_67, ↓r197_68, ↓r197_71, ↓r197_72, ↓r197_75, ↓r197_76, ↓r197_77, ↓r197_80, ↓r197_83, ↓r197_84, ↓r197_87, ↓r197_88, ↓r197_91, ↓r197_92, ↓r197_93, ↓r197_96, ↓r197_97, ↓r197_98, ↓r197_99, ↓r197_100, ↓r197_103, ↓r197_104, ↓r197_105, ↓r197_106, ↓r197_107, ↓r197_110, ↓r197_111, ↓r197_112, ↓r197_113, ↓r197_116, ↓r197_119, ↓r197_122, ↓r197_123, ↓r197_124, ↓r197_127, ↓r197_128, ↓r197_131, ↓r197_134, ↓r197_135, ↓r197_139, ↓r197_140, ↓r197_143, ↓r197_145, ↓r197_146, ↓r197_149, ↓r197_150, ↓r197_153, ↓r197_155, ↓r197_156, ↓r197_157, ↓r197_160, ↓r197_162, ↓r197_163, ↓r197_166, ↓r197_169, ↓r197_172, ↓r197_174, ↓r197_175, ↓r197_178, ↓r197_180, ↓r197_181, ↓r197_184, ↓r197_185, ↓r197_188, ↓r197_189, ↓r197_191, ↓r197_192, Option.toList, List.cons_append, List.nil_append]
        rw [← nI_0]
        have h361 : (fun k => if k < 2862 then h3 63 k else h3 61 k) = h 61 := by
          funext k
          by_cases g : k < 2862
          · rw [if_pos g, e3 63 (by omega) (by omega) (by omega) (by omega)]
            exact ob63 k g
          · rw [if_neg g, e3b, stepN_keep hBi.1.2 (by omega), hs']
            exact if_neg g
        rw [h361]
        have of : ∀ c, ¬ (26 ≤ c ∧ c ≤ 33) → c ≠ 0 → c ≠ 6 → c ≠ 60 → c ≠ 63 → c ≠ 75 → c ≠ 76 → c ≠ 79 → zhr h3 61 (h 61) c = h c := by
          intro c a1 a2 a3 a4 a5 a6 a7 a8
          rw [zhr_ap]
          by_cases g : c = 61
          · rw [if_pos g, g]
          · rw [if_neg g, e3 c g a6 a7 a8]
            exact ob c a1 a3 a2 a4 g a5
        have hfin := fun v => hend (zhr h3 61 (h 61)) v of (by rw [zhr_ne _ _ (by omega), e3 0 (by omega) (by omega) (by omega) (by omega)]; exact ob0) (by rw [zhr_ne _ _ (by omega), e3 60 (by omega) (by omega) (by omega) (by omega)]; exact ob60)
        refine c197_loop2 (d := d + 12) (T := h 59) (D := dueR (zTauOf h 18) n' s') hw60 (by omega) (fun p hp => ?_) (fun p hp => ?_) (fun k hk q => ?_) (2 * due + 1) 0 (by omega) (by omega) (hfin _)
        · rw [zhr_ne _ _ (by omega), e3 78 (by omega) (by omega) (by omega) (by omega), ob 78 (by omega) (by omega) (by omega) (by omega) (by omega) (by omega)]
          exact hnn p hp
        · rw [zhr_ne _ _ (by omega)]
          exact e3c p hp
        · simp only [↓r197_0, ↓r197_1, ↓r197_4, ↓r197_5, ↓r197_6, ↓r197_7, ↓r197_10, ↓r197_11, ↓r197_12, ↓r197_13, ↓r197_16, ↓r197_19, ↓r197_22, ↓r197_24, ↓r197_25, ↓r197_26, ↓r197_29, ↓r197_32, ↓r197_35, ↓r197_36, ↓r197_37, ↓r197_38, ↓r197_41, ↓r197_42, ↓r197_45, ↓r197_48, ↓r197_49, ↓r197_50, ↓r197_53, ↓r197_54, ↓r197_57, ↓r197_60, ↓r197_61, ↓r197_62, ↓r197_63, ↓r197_67, ↓r197_68, ↓r197_71, ↓r197_72, ↓r197_75, ↓r197_76, ↓r197_77, ↓r197_80, ↓r197_83, ↓r197_84, ↓r197_87, ↓r197_88, ↓r197_91, ↓r197_92, ↓r197_93, ↓r197_96, ↓r197_97, ↓r197_98, ↓r197_99, ↓r197_100, ↓r197_103, ↓r197_104, ↓r197_105, ↓r197_106, ↓r197_107, ↓r197_110, ↓r197_111, ↓r197_112, ↓r197_113, ↓r197_116, ↓r197_119, ↓r197_122, ↓r197_123, ↓r197_124, ↓r197_127, ↓r197_128, ↓r197_131, ↓r197_134, ↓r197_135, ↓r197_139, ↓r197_140, ↓r197_143, ↓r197_145, ↓r197_146, ↓r197_149, ↓r197_150, ↓r197_153, ↓r197_155, ↓r197_156, ↓r197_157, ↓r197_160, ↓r197_162, ↓r197_163, ↓r197_166, ↓r197_169, ↓r197_172, ↓r197_174, ↓r197_175, ↓r197_178, ↓r197_180, ↓r197_181, ↓r197_184, ↓r197_185, ↓r197_188, ↓r197_189, ↓r197_191, ↓r197_192, x1i]
          have eA : ansR w (2 * due) k = if k = w ∧ k = 2 * due then 0 else nI (1 + k) := rfl
          rw [eA] at q
          have z1 : (nI k = nI w) ↔ k = w := nI_eq (by omega) (by omega)
          have z2 : (nI k = nI (2 * due)) ↔ k = 2 * due := nI_eq (by omega) (by omega)
          by_cases g1 : k = w
          · rw [if_pos (z1.mpr g1)]
            by_cases g2 : k = 2 * due
            · rw [if_pos (z2.mpr g2)]
              rw [if_pos ⟨g1, g2⟩] at q
              exact q
            · rw [if_neg (fun z => g2 (z2.mp z))]
              rw [if_neg (fun z => g2 z.2)] at q
              exact q
          · rw [if_neg (fun z => g1 (z1.mp z))]
            rw [if_neg (fun z => g1 z.1)] at q
            exact q
  · simp (decide := true) only [if_neg g0, ↓reduceIte]
    refine zPo_in (by rw [zhr_ne _ _ (by omega)]) (by rw [zhr_ne _ _ (by omega)]) ?_
    rw [m197]
    simp (decide := true) only [↓r197_0, ↓r197_1, ↓r197_4, ↓r197_5, ↓r197_6, ↓r197_7, ↓r197_10, ↓r197_11, ↓r197_12, ↓r197_13, ↓r197_16, ↓r197_19, ↓r197_22, ↓r197_24, ↓r197_25, ↓r197_26, ↓r197_32, ↓r197_35, ↓r197_36, ↓r197_37, ↓r197_38, ↓r197_41, ↓r197_42, ↓r197_45, ↓r197_48, ↓r197_49, ↓r197_50, ↓r197_53, ↓r197_54, ↓r197_57, ↓r197_60, ↓r197_61, ↓r197_62, ↓r197_63, ↓r197_67, ↓r197_68, ↓r197_71, ↓r197_72, ↓r197_75, ↓r197_76, ↓r197_77, ↓r197_80, ↓r197_83, ↓r197_84, ↓r197_87, ↓r197_88, ↓r197_91, ↓r197_92, ↓r197_93, ↓r197_96, ↓r197_97, ↓r197_98, ↓r197_99, ↓r197_100, ↓r197_103, ↓r197_104, ↓r197_105, ↓r197_106, ↓r197_107, ↓r197_110, ↓r197_111, ↓r197_112, ↓r197_113, ↓r197_116, ↓r197_119, ↓r197_123, ↓r197_124, ↓r197_127, ↓r197_128, ↓r197_131, ↓r197_134, ↓r197_135, ↓r197_137, ↓r197_139, ↓r197_140, ↓r197_143, ↓r197_145, ↓r197_146, ↓r197_149, ↓r197_150, ↓r197_153, ↓r197_155, ↓r197_156, ↓r197_157, ↓r197_160, ↓r197_162, ↓r197_163, ↓r197_166, ↓r197_169, ↓r197_172, ↓r197_174, ↓r197_175, ↓r197_178, ↓r197_180, ↓r197_181, ↓r197_184, ↓r197_185, ↓r197_188, ↓r197_189, ↓r197_191, ↓r197_192, c106, if_neg g0, ↓reduceIte, Option.toList, List.cons_append, List.nil_append, h60, hw']
    exact hend _ _ (fun c a b c d e f g h => by rw [zhr_ne _ _ d, zhr_ne _ _ b]) (by rw [zhr_ne _ _ (by omega), zhr_same]) (by rw [zhr_same])
end
