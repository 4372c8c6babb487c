/-! the class's Reader: leaves -/
/-- a world with the Reader's numbers f and its code g -/
def hR (h : zH) (f g : Nat → Int32) : zH := fun c => if c = 7 then f else if c = 9 then g else h c
/-- the Reader looks at σ -/
def rL (f : Nat → Int32) (σ : pxS) : Prop := f 2 = nI σ.1 ∧ f 3 = nI σ.2.1 ∧ f 4 = σ.2.2.1 ∧ f 5 = (if σ.2.2.2 = true then 1 else 0)
section
variable {d : Nat} {Q : Option Value → zH → Prop} {h : zH} {f g f' g' B : Nat → Int32} {x0 : Int32} {L k p e z key n o j : Nat} {σ : pxS} {l : zL}
theorem hR_7 : hR h f g 7 = f := rfl
theorem hR_8 : hR h f g 8 = h 8 := rfl
theorem hR_9 : hR h f g 9 = g := rfl
theorem hR_p7 : zhr (hR h f g) 7 f' = hR h f' g := by
  funext c
  simp only [zhr_ap, hR]
  split <;> rfl
theorem hR_p9 : zhr (hR h f g) 9 g' = hR h f g' := by
  funext c
  simp only [zhr_ap, hR]
  by_cases q : c = 9
  · subst q; simp
  · simp [q]
theorem hR_self : hR h (h 7) (h 9) = h := by
  funext c
  simp only [hR]
  split
  · rename_i q; rw [q]
  · split
    · rename_i q; rw [q]
    · rfl
theorem nI_nm1 (he : e < 2 ^ 31) : ¬ nI e = -1 := by
  intro q
  have := nI_pos he
  rw [q] at this
  exact this (by decide)
theorem nI_96 (hk : k < 2 ^ 31) : (nI k < 96) = (k < 96) := nI_ltk (b := 96) hk (by omega)
theorem xr13 (hL : f 1 = nI L) (hV : pxV B L) (hT : ∀ i, i < L → h 8 i = B i) (hk : k < 2 ^ 31) : zM (d + 1) 13 [.ref 7, .int (nI k)] (hR h f g) Q = Q (some (.int (B k))) (hR h f g) := by
  have h96 := hV.1
  rw [m13]
  by_cases q : k < L
  · have q2 : k < 96 := by omega
    simp only [↓r13_0, ↓r13_1, ↓r13_4, ↓r13_5, ↓r13_6, ↓r13_9, ↓r13_12, ↓r13_13, ↓r13_15, ↓r13_18, ↓r13_19, ↓r13_22, ↓r13_23, ↓r13_24, ↓r13_27, ↓r13_28, hR_7, hL, if_neg (nI_pos hk), nI_ltk hk (by omega : L < 2 ^ 31), q, if_true, nI_96 hk, q2, zl_8, zok_nI q2 (by omega), zix_nI hk, hR_8, hT k q, true_and]
  · simp only [↓r13_0, ↓r13_1, ↓r13_4, ↓r13_5, ↓r13_6, ↓r13_9, ↓r13_12, ↓r13_13, ↓r13_15, ↓r13_18, ↓r13_19, ↓r13_22, ↓r13_23, ↓r13_24, ↓r13_27, ↓r13_28, hR_7, hL, if_neg (nI_pos hk), nI_ltk hk (by omega : L < 2 ^ 31), q, if_false, hV.2.1 k (by omega)]
theorem xr14 (hL : f 1 = nI L) (hV : pxV B L) (hT : ∀ i, i < L → h 8 i = B i) (hk : k < 2 ^ 31) : zM (d + 2) 14 [.ref 7, .int (nI k)] (hR h f g) Q = Q (some (.int (pxSo (B k)))) (hR h f g) := by
  rw [m14]
  simp only [↓r14_0, ↓r14_1, ↓r14_2, ↓r14_5, ↓r14_6, ↓r14_7, ↓r14_9, ↓r14_11, ↓r14_14, ↓r14_17, ↓r14_19, ↓r14_20, ↓r14_21, ↓r14_23, ↓r14_25, ↓r14_28, ↓r14_31, ↓r14_33, ↓r14_36, ↓r14_37, xr13 hL hV hT hk, Option.toList, List.cons_append, List.nil_append, c103]
  unfold pxSo
  by_cases q1 : 97 ≤ B k ∧ B k ≤ 122
  · simp (decide := true) only [if_pos q1, ↓reduceIte]
  · simp (decide := true) only [if_neg q1, ↓reduceIte]
    by_cases q2 : 48 ≤ B k ∧ B k ≤ 57
    · simp (decide := true) only [if_pos q2, ↓reduceIte]
    · simp (decide := true) only [if_neg q2, ↓reduceIte]
theorem xr12 : zM (d + 1) 12 [.ref 7] (hR h f g) Q = Q (some (.int (if pxW (f 4) = true then 1 else 0))) (hR h f g) := by
  rw [m12]
  simp only [↓r12_0, ↓r12_1, ↓r12_4, ↓r12_6, ↓r12_9, ↓r12_10, ↓r12_13, ↓r12_15, ↓r12_18, ↓r12_19, ↓r12_22, ↓r12_23f, ↓r12_23t, hR_7]
  unfold pxW
  by_cases a : f 4 = -2
  · simp [a]
  · by_cases b : f 4 = -3
    · simp [b]
    · simp [a, b]
theorem xr15 : zM (d + 1) 15 [.ref 7] (hR h f g) Q = if f 6 = -1 then Q none (hR h (upd f 6 (f 2)) g) else Q none (hR h f g) := by
  rw [m15]
  simp only [↓r15_0, ↓r15_1, ↓r15_4, ↓r15_5, ↓r15_8, ↓r15_9, ↓r15_10, ↓r15_13, ↓r15_16, hR_7, hR_p7]
theorem xr16 : zM (d + 1) 16 [.ref 7, .int x0] (hR h f g) Q = Q (some (.int (if f 6 = -1 ∧ f 4 = x0 then 1 else 0))) (hR h f g) := by
  rw [m16]
  simp only [↓r16_0, ↓r16_1, ↓r16_4, ↓r16_5, ↓r16_8, ↓r16_9, ↓r16_12, ↓r16_13, ↓r16_16, ↓r16_17, ↓r16_20, ↓r16_21f, ↓r16_21t, hR_7]
  by_cases a : f 6 = -1
  · by_cases b : f 4 = x0
    · simp [a, b]
    · simp [a, b]
  · simp [a]
theorem xr17 (hz : f 9 = nI z) (h96 : z ≤ 96) : zM (d + 1) 17 [.ref 7, .int x0] (hR h f g) Q = if z < 96 then Q none (hR h (upd f 9 (nI (z + 1))) (upd g z x0)) else Q none (hR h f g) := by
  rw [m17]
  by_cases q : z < 96
  · simp only [↓r17_0, ↓r17_1, ↓r17_4, ↓r17_6, ↓r17_9, ↓r17_10, ↓r17_13, ↓r17_14, ↓r17_17, ↓r17_18, ↓r17_19, ↓r17_20, ↓r17_21, ↓r17_24, ↓r17_25, ↓r17_26, ↓r17_29, hR_7, hz, nI_96 (by omega : z < 2 ^ 31), q, if_true, zs_9, zok_nI q (by omega), zix_nI (by omega : z < 2 ^ 31), hR_9, hR_p9, hR_p7, nI_1, true_and]
  · simp only [↓r17_0, ↓r17_1, ↓r17_4, ↓r17_6, ↓r17_9, ↓r17_10, ↓r17_13, ↓r17_14, ↓r17_17, ↓r17_18, ↓r17_19, ↓r17_20, ↓r17_21, ↓r17_24, ↓r17_25, ↓r17_26, ↓r17_29, hR_7, hz, nI_96 (by omega : z < 2 ^ 31), q, if_false]
theorem xr11_sk (hV : pxV B L) (hT : ∀ i, i < L → h 8 i = B i) : ∀ (m p : Nat) (f : Nat → Int32), p + m = L → f 1 = nI L → f 2 = nI p → (∀ f', f' 2 = nI (pxSk B m p) → (∀ j, j ≠ 2 → f' j = f j) → zR (d + 2) 11 Q 55 (some (.ref 7) :: l) [] (hR h f' g)) → zR (d + 2) 11 Q 18 (some (.ref 7) :: l) [] (hR h f g)
  | 0, p, f, hp, h1, h2, K => by
    have h96 := hV.1
    have q : ¬ p < L := by omega
    rw [r11_18]
    simp only [↓r11_0, ↓r11_1, ↓r11_4, ↓r11_5, ↓r11_6, ↓r11_9, ↓r11_10, ↓r11_11, ↓r11_12, ↓r11_15, ↓r11_19, ↓r11_22, ↓r11_23, ↓r11_26, ↓r11_29, ↓r11_30, ↓r11_31, ↓r11_34, ↓r11_37, ↓r11_39, ↓r11_42, ↓r11_43, ↓r11_44, ↓r11_47, ↓r11_48, ↓r11_49, ↓r11_52, ↓r11_56, ↓r11_57, ↓r11_58, ↓r11_61, ↓r11_64, ↓r11_67, ↓r11_68, ↓r11_69, ↓r11_72, ↓r11_73, ↓r11_74, ↓r11_75, ↓r11_78, ↓r11_81, ↓r11_84, ↓r11_85, ↓r11_88, ↓r11_91, ↓r11_92, ↓r11_95, ↓r11_96, ↓r11_99, ↓r11_102, ↓r11_103, ↓r11_104, ↓r11_107, ↓r11_110, ↓r11_111, ↓r11_114, ↓r11_117, ↓r11_118, ↓r11_119, ↓r11_122, ↓r11_123, ↓r11_124, ↓r11_127, ↓r11_130, ↓r11_131, ↓r11_132, ↓r11_135, ↓r11_136, ↓r11_139, ↓r11_142, ↓r11_143, ↓r11_146, ↓r11_147, ↓r11_150, ↓r11_151, ↓r11_154, ↓r11_155, ↓r11_158, hR_7, h1, h2, nI_ltk (by omega : p < 2 ^ 31) (by omega : L < 2 ^ 31), q, if_false]
    exact K f h2 (fun _ _ => rfl)
  | m + 1, p, f, hp, h1, h2, K => by
    have h96 := hV.1
    have q : p < L := by omega
    rw [r11_18]
    simp only [↓r11_0, ↓r11_1, ↓r11_4, ↓r11_5, ↓r11_6, ↓r11_9, ↓r11_10, ↓r11_11, ↓r11_12, ↓r11_15, ↓r11_19, ↓r11_22, ↓r11_23, ↓r11_26, ↓r11_29, ↓r11_30, ↓r11_31, ↓r11_34, ↓r11_37, ↓r11_39, ↓r11_42, ↓r11_43, ↓r11_44, ↓r11_47, ↓r11_48, ↓r11_49, ↓r11_52, ↓r11_56, ↓r11_57, ↓r11_58, ↓r11_61, ↓r11_64, ↓r11_67, ↓r11_68, ↓r11_69, ↓r11_72, ↓r11_73, ↓r11_74, ↓r11_75, ↓r11_78, ↓r11_81, ↓r11_84, ↓r11_85, ↓r11_88, ↓r11_91, ↓r11_92, ↓r11_95, ↓r11_96, ↓r11_99, ↓r11_102, ↓r11_103, ↓r11_104, ↓r11_107, ↓r11_110, ↓r11_111, ↓r11_114, ↓r11_117, ↓r11_118, ↓r11_119, ↓r11_122, ↓r11_123, ↓r11_124, ↓r11_127, ↓r11_130, ↓r11_131, ↓r11_132, ↓r11_135, ↓r11_136, ↓r11_139, ↓r11_142, ↓r11_143, ↓r11_146, ↓r11_147, ↓r11_150, ↓r11_151, ↓r11_154, ↓r11_155, ↓r11_158, hR_7, h1, h2, nI_ltk (by omega : p < 2 ^ 31) (by omega : L < 2 ^ 31), q, if_true, xr13 h1 hV hT (by omega : p < 2 ^ 31), Option.toList, List.cons_append, List.nil_append]
    unfold pxSk at K
    by_cases q2 : B p = 32
    · rw [if_pos q2] at K
      simp only [if_pos q2, hR_p7, nI_1]
      refine xr11_sk hV hT m (p + 1) (upd f 2 (nI (p + 1))) (by omega) (by rw [pk_un (by omega)]; exact h1) pk_us (fun f' a b => K f' a (fun j hj => by rw [b j hj, pk_un hj]))
    · rw [if_neg q2] at K
      simp only [if_neg q2]
      exact K f h2 (fun _ _ => rfl)
theorem xr11_we (hV : pxV B L) (hT : ∀ i, i < L → h 8 i = B i) {so : Int32} (hW : pxW so = true) : ∀ (m p : Nat) (f : Nat → Int32), p + m = L → f 1 = nI L → f 3 = nI p → f 4 = so → (∀ f', f' 3 = nI (pxWe B so m p) → (∀ j, j ≠ 3 → f' j = f j) → zR (d + 2) 11 Q 130 (some (.ref 7) :: l) [] (hR h f' g)) → zR (d + 2) 11 Q 84 (some (.ref 7) :: l) [] (hR h f g)
  | 0, p, f, hp, h1, h3, h4, K => by
    have h96 := hV.1
    have q : ¬ p < L := by omega
    rw [r11_84]
    simp (decide := true) only [↓r11_0, ↓r11_1, ↓r11_4, ↓r11_5, ↓r11_6, ↓r11_9, ↓r11_10, ↓r11_11, ↓r11_12, ↓r11_15, ↓r11_18, ↓r11_19, ↓r11_22, ↓r11_23, ↓r11_26, ↓r11_29, ↓r11_30, ↓r11_31, ↓r11_34, ↓r11_37, ↓r11_39, ↓r11_42, ↓r11_43, ↓r11_44, ↓r11_47, ↓r11_48, ↓r11_49, ↓r11_52, ↓r11_55, ↓r11_56, ↓r11_57, ↓r11_58, ↓r11_61, ↓r11_64, ↓r11_67, ↓r11_68, ↓r11_69, ↓r11_72, ↓r11_73, ↓r11_74, ↓r11_75, ↓r11_78, ↓r11_81, ↓r11_85, ↓r11_88, ↓r11_91, ↓r11_92, ↓r11_95, ↓r11_96, ↓r11_99, ↓r11_102, ↓r11_103, ↓r11_104, ↓r11_107, ↓r11_110, ↓r11_111, ↓r11_114, ↓r11_117, ↓r11_118, ↓r11_119, ↓r11_122, ↓r11_123, ↓r11_124, ↓r11_127, ↓r11_131, ↓r11_132, ↓r11_135, ↓r11_136, ↓r11_139, ↓r11_142, ↓r11_143, ↓r11_146, ↓r11_147, ↓r11_150, ↓r11_151, ↓r11_154, ↓r11_155, ↓r11_158, xr12, Option.toList, List.cons_append, List.nil_append, hR_7, h1, h3, h4, hW, ↓reduceIte, nI_ltk (by omega : p < 2 ^ 31) (by omega : L < 2 ^ 31), q]
    exact K f h3 (fun _ _ => rfl)
  | m + 1, p, f, hp, h1, h3, h4, K => by
    have h96 := hV.1
    have q : p < L := by omega
    rw [r11_84]
    simp (decide := true) only [↓r11_0, ↓r11_1, ↓r11_4, ↓r11_5, ↓r11_6, ↓r11_9, ↓r11_10, ↓r11_11, ↓r11_12, ↓r11_15, ↓r11_18, ↓r11_19, ↓r11_22, ↓r11_23, ↓r11_26, ↓r11_29, ↓r11_30, ↓r11_31, ↓r11_34, ↓r11_37, ↓r11_39, ↓r11_42, ↓r11_43, ↓r11_44, ↓r11_47, ↓r11_48, ↓r11_49, ↓r11_52, ↓r11_55, ↓r11_56, ↓r11_57, ↓r11_58, ↓r11_61, ↓r11_64, ↓r11_67, ↓r11_68, ↓r11_69, ↓r11_72, ↓r11_73, ↓r11_74, ↓r11_75, ↓r11_78, ↓r11_81, ↓r11_85, ↓r11_88, ↓r11_91, ↓r11_92, ↓r11_95, ↓r11_96, ↓r11_99, ↓r11_102, ↓r11_103, ↓r11_104, ↓r11_107, ↓r11_110, ↓r11_111, ↓r11_114, ↓r11_117, ↓r11_118, ↓r11_119, ↓r11_122, ↓r11_123, ↓r11_124, ↓r11_127, ↓r11_131, ↓r11_132, ↓r11_135, ↓r11_136, ↓r11_139, ↓r11_142, ↓r11_143, ↓r11_146, ↓r11_147, ↓r11_150, ↓r11_151, ↓r11_154, ↓r11_155, ↓r11_158, xr12, Option.toList, List.cons_append, List.nil_append, hR_7, h1, h3, h4, hW, ↓reduceIte, nI_ltk (by omega : p < 2 ^ 31) (by omega : L < 2 ^ 31), q, xr14 h1 hV hT (by omega : p < 2 ^ 31)]
    unfold pxWe at K
    by_cases q2 : pxSo (B p) = so
    · rw [if_pos q2] at K
      simp only [if_pos q2, hR_p7, nI_1]
      refine xr11_we hV hT hW m (p + 1) (upd f 3 (nI (p + 1))) (by omega) (by rw [pk_un (by omega)]; exact h1) pk_us (by rw [pk_un (by omega)]; exact h4) (fun f' a b => K f' a (fun j hj => by rw [b j hj, pk_un hj]))
    · rw [if_neg q2] at K
      simp only [if_neg q2]
      exact K f h3 (fun _ _ => rfl)
theorem xr11a (hV : pxV B L) (hT : ∀ i, i < L → h 8 i = B i) (hL : f 1 = nI L) (l3 : f 3 = nI σ.2.1) (l4 : f 4 = σ.2.2.1) (hG : σ.2.1 ≤ L) (hQ : ∀ f', rL f' (pxNx B L σ) → (∀ j, j ≠ 2 → j ≠ 3 → j ≠ 4 → j ≠ 5 → f' j = f j) → Q none (hR h f' g)) : zM (d + 3) 11 [.ref 7] (hR h f g) Q := by
  have h96 := hV.1
  obtain ⟨s1, s2⟩ := pxSt_le (B := B) hG
  rw [m11]
  simp only [↓r11_0, ↓r11_1, ↓r11_4, ↓r11_5, ↓r11_6, ↓r11_9, ↓r11_10, ↓r11_11, ↓r11_12, ↓r11_15, ↓r11_19, ↓r11_22, ↓r11_23, ↓r11_26, ↓r11_29, ↓r11_30, ↓r11_31, ↓r11_34, ↓r11_37, ↓r11_39, ↓r11_42, ↓r11_43, ↓r11_44, ↓r11_47, ↓r11_48, ↓r11_49, ↓r11_52, ↓r11_55, ↓r11_56, ↓r11_57, ↓r11_58, ↓r11_61, ↓r11_64, ↓r11_67, ↓r11_68, ↓r11_69, ↓r11_72, ↓r11_73, ↓r11_74, ↓r11_75, ↓r11_78, ↓r11_81, ↓r11_84, ↓r11_85, ↓r11_88, ↓r11_91, ↓r11_92, ↓r11_95, ↓r11_96, ↓r11_99, ↓r11_102, ↓r11_103, ↓r11_104, ↓r11_107, ↓r11_110, ↓r11_111, ↓r11_114, ↓r11_117, ↓r11_118, ↓r11_119, ↓r11_122, ↓r11_123, ↓r11_124, ↓r11_127, ↓r11_130, ↓r11_131, ↓r11_132, ↓r11_135, ↓r11_136, ↓r11_139, ↓r11_142, ↓r11_143, ↓r11_146, ↓r11_147, ↓r11_150, ↓r11_151, ↓r11_154, ↓r11_155, ↓r11_158, xr12, Option.toList, List.cons_append, List.nil_append, hR_7, hR_p7, l3, l4]
  refine xr11_sk hV hT (L - σ.2.1) σ.2.1 _ (by omega) (by rw [pk_un (by omega)]; exact hL) pk_us (fun f1 a1 b1 => ?_)
  have c1 : f1 1 = nI L := by rw [b1 1 (by omega), pk_un (by omega)]; exact hL
  have a1' : f1 2 = nI (pxSt B L σ.2.1) := a1
  generalize hst : pxSt B L σ.2.1 = st at a1' s1 s2
  simp only [↓r11_0, ↓r11_1, ↓r11_4, ↓r11_5, ↓r11_6, ↓r11_9, ↓r11_10, ↓r11_11, ↓r11_12, ↓r11_15, ↓r11_18, ↓r11_19, ↓r11_22, ↓r11_23, ↓r11_26, ↓r11_29, ↓r11_30, ↓r11_31, ↓r11_34, ↓r11_37, ↓r11_39, ↓r11_42, ↓r11_43, ↓r11_44, ↓r11_47, ↓r11_48, ↓r11_49, ↓r11_52, ↓r11_55, ↓r11_56, ↓r11_57, ↓r11_58, ↓r11_61, ↓r11_64, ↓r11_67, ↓r11_68, ↓r11_69, ↓r11_72, ↓r11_73, ↓r11_74, ↓r11_75, ↓r11_78, ↓r11_81, ↓r11_85, ↓r11_88, ↓r11_91, ↓r11_92, ↓r11_95, ↓r11_96, ↓r11_99, ↓r11_102, ↓r11_103, ↓r11_104, ↓r11_107, ↓r11_110, ↓r11_111, ↓r11_114, ↓r11_117, ↓r11_118, ↓r11_119, ↓r11_122, ↓r11_123, ↓r11_124, ↓r11_127, ↓r11_131, ↓r11_132, ↓r11_135, ↓r11_136, ↓r11_139, ↓r11_142, ↓r11_143, ↓r11_146, ↓r11_147, ↓r11_150, ↓r11_151, ↓r11_154, ↓r11_155, ↓r11_158, hR_7, a1', xr14 c1 hV hT (by omega : st < 2 ^ 31), Option.toList, List.cons_append, List.nil_append, hR_p7, m1001, pk_un (by omega : (1 : Nat) ≠ 4), pk_un (by omega : (2 : Nat) ≠ 4), c1, nI_1]
  have fin : ∀ f2, f2 2 = nI st → f2 3 = nI (pxEn B L st) → f2 4 = pxSo (B st) → (∀ j, j ≠ 2 → j ≠ 3 → j ≠ 4 → j ≠ 5 → f2 j = f j) → zR (d + 2) 11 Q 130 [some (.ref 7), some (.int (if pxW σ.2.2.1 = true then 1 else 0)), some (.int (nI σ.2.1))] [] (hR h f2 g) := by
    intro f2 e2 e3 e4 e5
    have hend : ∀ v : Int32, v = (if (pxW σ.2.2.1 && pxW (pxSo (B st)) && decide (st = σ.2.1)) = true then 1 else 0) → Q none (hR h (upd f2 5 v) g) := by
      intro v hv
      refine hQ _ ⟨?_, ?_, ?_, ?_⟩ (fun j j2 j3 j4 j5 => by rw [pk_un j5]; exact e5 j j2 j3 j4 j5)
      · rw [pk_un (by omega), e2]; unfold pxNx; rw [hst]
      · rw [pk_un (by omega), e3]; unfold pxNx; rw [hst]
      · rw [pk_un (by omega), e4]; unfold pxNx; rw [hst]
      · rw [pk_us, hv]; unfold pxNx; rw [hst]
    rw [r11_130]
    simp only [↓r11_0, ↓r11_1, ↓r11_4, ↓r11_5, ↓r11_6, ↓r11_9, ↓r11_10, ↓r11_11, ↓r11_12, ↓r11_15, ↓r11_18, ↓r11_19, ↓r11_22, ↓r11_23, ↓r11_26, ↓r11_29, ↓r11_30, ↓r11_31, ↓r11_34, ↓r11_37, ↓r11_39, ↓r11_42, ↓r11_43, ↓r11_44, ↓r11_47, ↓r11_48, ↓r11_49, ↓r11_52, ↓r11_55, ↓r11_56, ↓r11_57, ↓r11_58, ↓r11_61, ↓r11_64, ↓r11_67, ↓r11_68, ↓r11_69, ↓r11_72, ↓r11_73, ↓r11_74, ↓r11_75, ↓r11_78, ↓r11_81, ↓r11_84, ↓r11_85, ↓r11_88, ↓r11_91, ↓r11_92, ↓r11_95, ↓r11_96, ↓r11_99, ↓r11_102, ↓r11_103, ↓r11_104, ↓r11_107, ↓r11_110, ↓r11_111, ↓r11_114, ↓r11_117, ↓r11_118, ↓r11_119, ↓r11_122, ↓r11_123, ↓r11_124, ↓r11_127, ↓r11_131, ↓r11_132, ↓r11_135, ↓r11_136, ↓r11_139, ↓r11_142, ↓r11_143, ↓r11_146, ↓r11_147, ↓r11_150, ↓r11_151, ↓r11_154, ↓r11_155, ↓r11_158, xr12, Option.toList, List.cons_append, List.nil_append, hR_7, e4, e2, hR_p7, nI_eq (by omega : st < 2 ^ 31) (by omega : σ.2.1 < 2 ^ 31)]
    cases w1 : pxW σ.2.2.1
    · simp (decide := true) only [↓reduceIte, true_and, w1, Bool.false_and] at hend ⊢
      exact hend _ rfl
    · cases w2 : pxW (pxSo (B st))
      · simp (decide := true) only [↓reduceIte, true_and, w1, w2, Bool.false_and, Bool.true_and] at hend ⊢
        exact hend _ rfl
      · by_cases w3 : st = σ.2.1
        · simp (decide := true) only [↓reduceIte, true_and, w1, w2, if_pos w3, Bool.true_and] at hend ⊢
          exact hend _ (by simp [w3])
        · simp (decide := true) only [↓reduceIte, true_and, w1, w2, w3, Bool.true_and] at hend ⊢
          exact hend _ rfl
  have e0 : (if nI L < nI (st + 1) then nI L else nI (st + 1)) = nI (if st < L then st + 1 else L) := by
    by_cases q : st < L
    · rw [if_neg (nI_nlt (by omega) (by omega)), if_pos q]
    · rw [if_pos (nI_lt (by omega) (by omega)), if_neg q]
  rw [e0]
  cases w : pxW (pxSo (B st))
  · rw [r11_84]
    simp (decide := true) only [↓r11_0, ↓r11_1, ↓r11_4, ↓r11_5, ↓r11_6, ↓r11_9, ↓r11_10, ↓r11_11, ↓r11_12, ↓r11_15, ↓r11_18, ↓r11_19, ↓r11_22, ↓r11_23, ↓r11_26, ↓r11_29, ↓r11_30, ↓r11_31, ↓r11_34, ↓r11_37, ↓r11_39, ↓r11_42, ↓r11_43, ↓r11_44, ↓r11_47, ↓r11_48, ↓r11_49, ↓r11_52, ↓r11_55, ↓r11_56, ↓r11_57, ↓r11_58, ↓r11_61, ↓r11_64, ↓r11_67, ↓r11_68, ↓r11_69, ↓r11_72, ↓r11_73, ↓r11_74, ↓r11_75, ↓r11_78, ↓r11_81, ↓r11_85, ↓r11_88, ↓r11_91, ↓r11_92, ↓r11_95, ↓r11_96, ↓r11_99, ↓r11_102, ↓r11_103, ↓r11_104, ↓r11_107, ↓r11_110, ↓r11_111, ↓r11_114, ↓r11_117, ↓r11_118, ↓r11_119, ↓r11_122, ↓r11_123, ↓r11_124, ↓r11_127, ↓r11_131, ↓r11_132, ↓r11_135, ↓r11_136, ↓r11_139, ↓r11_142, ↓r11_143, ↓r11_146, ↓r11_147, ↓r11_150, ↓r11_151, ↓r11_154, ↓r11_155, ↓r11_158, xr12, Option.toList, List.cons_append, List.nil_append, hR_7, pk_un (by omega : (4 : Nat) ≠ 3), pk_us, w, ↓reduceIte]
    refine fin _ ?_ ?_ ?_ (fun j j2 j3 j4 j5 => ?_)
    · rw [pk_un (by omega), pk_un (by omega)]; exact a1'
    · rw [pk_us]; unfold pxEn; rw [w]; rfl
    · rw [pk_un (by omega), pk_us]
    · rw [pk_un j3, pk_un j4, b1 j j2, pk_un j2]
  · have hl : st < L := by
      rcases Nat.lt_or_ge st L with z | z
      · exact z
      · rw [pxSo_end hV z] at w; exact absurd w (by decide)
    rw [if_pos hl]
    refine xr11_we hV hT w (L - (st + 1)) (st + 1) _ (by omega) ?_ pk_us ?_ (fun f2 a2 b2 => fin f2 ?_ ?_ ?_ (fun j j2 j3 j4 j5 => ?_))
    · rw [pk_un (by omega), pk_un (by omega)]; exact c1
    · rw [pk_un (by omega), pk_us]
    · rw [b2 2 (by omega), pk_un (by omega), pk_un (by omega)]; exact a1'
    · rw [a2]; unfold pxEn; rw [if_pos w]
    · rw [b2 4 (by omega), pk_un (by omega), pk_us]
    · rw [b2 j j3, pk_un j3, pk_un j4, b1 j j2, pk_un j2]
theorem xr11 (hV : pxV B L) (hT : ∀ i, i < L → h 8 i = B i) (hL : f 1 = nI L) (hl : rL f σ) (hG : σ.2.1 ≤ L) (hQ : ∀ f', rL f' (pxNx B L σ) → (∀ j, j ≠ 2 → j ≠ 3 → j ≠ 4 → j ≠ 5 → f' j = f j) → Q none (hR h f' g)) : zM (d + 3) 11 [.ref 7] (hR h f g) Q := xr11a hV hT hL hl.2.1 hl.2.2.1 hG hQ
end
