/-! sheets -/
def zsh (c : Nat) : Prop := c = 35 ∨ c = 37 ∨ c = 39 ∨ c = 41 ∨ c = 45 ∨ c = 48 ∨ c = 51 ∨ c = 54 ∨ c = 57
section
variable {d : Nat} {x0 x1 x2 v x z : Int32} {h h' : zH} {n m N n' m' k w j f b c t i : Nat} {s row row' : Nat → Int32} {Q : Option Value → zH → Prop}
theorem zc_h (hc : zsh c) : zcls c = 3 := by rcases hc with rfl | rfl | rfl | rfl | rfl | rfl | rfl | rfl | rfl <;> rfl
theorem zc_h1 (hc : zsh c) : zcls (c + 1) = 10 := by rcases hc with rfl | rfl | rfl | rfl | rfl | rfl | rfl | rfl | rfl <;> rfl
theorem zaln_h (hc : zsh c) : zaln (c + 1) = 24 := by rcases hc with rfl | rfl | rfl | rfl | rfl | rfl | rfl | rfl | rfl <;> rfl
theorem zl_h (hc : zsh c) {k : Int32 → Prop} : zal (c + 1) x h k = (zok x 24 ∧ k (h (c + 1) (zix x))) := by rcases hc with rfl | rfl | rfl | rfl | rfl | rfl | rfl | rfl | rfl <;> rfl
theorem zs_h (hc : zsh c) {k : zH → Prop} : zas (c + 1) x z h k = (zok x 24 ∧ k (zhr h (c + 1) (upd (h (c + 1)) (zix x) z))) := by rcases hc with rfl | rfl | rfl | rfl | rfl | rfl | rfl | rfl | rfl <;> exact zand_l rfl
theorem zsh_k (hk : k < 4) : zsh (35 + 2 * k) := by
  rcases (by omega : k = 0 ∨ k = 1 ∨ k = 2 ∨ k = 3) with rfl | rfl | rfl | rfl <;> simp [zsh]
theorem zsh_s (hk : k < 5) : zsh (45 + 3 * k) := by
  rcases (by omega : k = 0 ∨ k = 1 ∨ k = 2 ∨ k = 3 ∨ k = 4) with rfl | rfl | rfl | rfl | rfl <;> simp [zsh]
theorem hasN {M : Int32} {q : Nat} (hM : M.toInt = (q : Int)) (g : 0 ≤ x0 ∧ x0 ≤ M) : ∃ k, k ≤ q ∧ x0 = nI k := nI_of2 hM (Int32.not_lt.mpr g.1) g.2
theorem c95k (hk : k < 4) : zM (d + 2) 95 [.ref 0, .int (nI k)] h Q = Q (some (.ref (35 + 2 * k))) h := by
  have g : 0 ≤ nI k ∧ nI k ≤ 3 := ⟨nI_pos' (by omega), nI_le (b := 3) (by omega) (by omega)⟩
  rw [m95]
  simp (decide := true) only [↓r95_0, ↓r95_1, ↓r95_2, ↓r95_3, ↓r95_6, ↓r95_9, ↓r95_10, ↓r95_13, ↓r95_14, ↓r95_15, ↓r95_18, ↓r95_19, ↓r95_19n, c103, Option.toList, List.cons_append, List.nil_append, if_pos g, ↓reduceIte, za_34, zok_nI hk (by omega), zix_nI (by omega : k < 2 ^ 31), true_and]
theorem c95n (g : ¬ (0 ≤ x0 ∧ x0 ≤ 3)) : zM (d + 2) 95 [.ref 0, .int x0] h Q = Q (some .null) h := by
  rw [m95]
  simp (decide := true) only [↓r95_0, ↓r95_1, ↓r95_2, ↓r95_3, ↓r95_6, ↓r95_9, ↓r95_10, ↓r95_13, ↓r95_14, ↓r95_15, ↓r95_18, ↓r95_19, ↓r95_19n, c103, Option.toList, List.cons_append, List.nil_append, if_neg g, ↓reduceIte, true_and]
theorem c96k (hk : k < 5) : zM (d + 2) 96 [.ref 0, .int (nI k)] h Q = Q (some (.ref (44 + 3 * k))) h := by
  have g : 0 ≤ nI k ∧ nI k ≤ 4 := ⟨nI_pos' (by omega), nI_le (b := 4) (by omega) (by omega)⟩
  rw [m96]
  simp (decide := true) only [↓r96_0, ↓r96_1, ↓r96_2, ↓r96_3, ↓r96_6, ↓r96_9, ↓r96_10, ↓r96_13, ↓r96_14, ↓r96_15, ↓r96_18, ↓r96_19, ↓r96_19n, c103, Option.toList, List.cons_append, List.nil_append, if_pos g, ↓reduceIte, za_43, zok_nI hk (by omega), zix_nI (by omega : k < 2 ^ 31), true_and]
theorem c96n (g : ¬ (0 ≤ x0 ∧ x0 ≤ 4)) : zM (d + 2) 96 [.ref 0, .int x0] h Q = Q (some .null) h := by
  rw [m96]
  simp (decide := true) only [↓r96_0, ↓r96_1, ↓r96_2, ↓r96_3, ↓r96_6, ↓r96_9, ↓r96_10, ↓r96_13, ↓r96_14, ↓r96_15, ↓r96_18, ↓r96_19, ↓r96_19n, c103, Option.toList, List.cons_append, List.nil_append, if_neg g, ↓reduceIte, true_and]
theorem c183 : zM (d + 2) 183 [.int x0] h Q = if 0 ≤ x0 ∧ x0 ≤ 3 then Q (some (.int 1)) h else Q (some (.int 0)) h := by
  rw [m183]
  simp only [↓r183_0, ↓r183_1, ↓r183_2, ↓r183_3, ↓r183_6, ↓r183_9f, ↓r183_9t, c106, Option.toList, List.cons_append, List.nil_append]
theorem c190 : zM (d + 2) 190 [.int x0] h Q = if 0 ≤ x0 ∧ x0 ≤ 4 then Q (some (.int 1)) h else Q (some (.int 0)) h := by
  rw [m190]
  simp only [↓r190_0, ↓r190_1, ↓r190_2, ↓r190_3, ↓r190_6, ↓r190_9f, ↓r190_9t, c106, Option.toList, List.cons_append, List.nil_append]
theorem c32 (hc : zsh c) : zM (d + 1) 32 [.ref c] h Q = if h c 0 = -1 then Q (some (.int 1)) h else Q (some (.int 0)) h := by
  rw [m32]
  simp only [↓r32_0, ↓r32_1, ↓r32_4, ↓r32_5, ↓r32_8, ↓r32_9, ↓r32_12, ↓r32_13f, ↓r32_13t, zc_h hc, true_and]
theorem c33 (hc : zsh c) : zM (d + 2) 33 [.ref c, .int x0] h Q = if 0 ≤ x0 ∧ x0 ≤ h c 1 - 1 then Q (some (.int 1)) h else Q (some (.int 0)) h := by
  rw [m33]
  simp only [↓r33_0, ↓r33_1, ↓r33_2, ↓r33_3, ↓r33_6, ↓r33_7, ↓r33_8, ↓r33_11f, ↓r33_11t, zc_h hc, true_and, c103, Option.toList, List.cons_append, List.nil_append]
theorem c34 (hc : zsh c) : zM (d + 2) 34 [.ref c, .int x0, .int x1] h Q = if 0 ≤ x1 ∧ x1 ≤ h c 1 then (if 0 ≤ x0 ∧ x0 ≤ h c 1 - x1 then Q (some (.int 1)) h else Q (some (.int 0)) h) else Q (some (.int 0)) h := by
  rw [m34]
  simp only [↓r34_0, ↓r34_1, ↓r34_2, ↓r34_3, ↓r34_6, ↓r34_9, ↓r34_12, ↓r34_13, ↓r34_14, ↓r34_15, ↓r34_18, ↓r34_19, ↓r34_20, ↓r34_23, ↓r34_26, ↓r34_27, ↓r34_30, ↓r34_31f, ↓r34_31t, zc_h hc, true_and, c103, Option.toList, List.cons_append, List.nil_append]
  by_cases g : 0 ≤ x1 ∧ x1 ≤ h c 1
  · simp (decide := true) only [if_pos g, ↓reduceIte]
  · simp (decide := true) only [if_neg g, ↓reduceIte]
theorem c35 (hc : zsh c) (hz : h c 1 = nI n) (h24 : n ≤ 24) : zM (d + 3) 35 [.ref c, .int (nI i)] h Q = if i < n then (if h (c + 1) i = -2147483648 then Q (some (.int 0)) h else Q (some (.int 1)) h) else (if 0 ≤ nI i ∧ nI i ≤ nI n - 1 then zR (d + 2) 35 Q 8 [some (.ref c), some (.int (nI i))] [] h else Q (some (.int 0)) h) := by
  rw [m35]
  simp only [↓r35_0, ↓r35_1, ↓r35_2, ↓r35_5, ↓r35_9, ↓r35_12, ↓r35_13, ↓r35_14, ↓r35_16, ↓r35_19, ↓r35_20, ↓r35_23, ↓r35_24f, ↓r35_24t, c33 hc, hz, Option.toList, List.cons_append, List.nil_append, zc_h hc, true_and]
  by_cases g : i < n
  · have g2 : 0 ≤ nI i ∧ nI i ≤ nI n - 1 := ⟨nI_pos' (by omega), by rw [nI_s1 (by omega)]; exact nI_le (by omega) (by omega)⟩
    simp (decide := true) only [if_pos g, if_pos g2, ↓reduceIte, ↓r35_0, ↓r35_1, ↓r35_2, ↓r35_5, ↓r35_8, ↓r35_9, ↓r35_12, ↓r35_13, ↓r35_14, ↓r35_16, ↓r35_19, ↓r35_20, ↓r35_23, ↓r35_24f, ↓r35_24t, zc_h hc, zl_h hc, zok_nI (by omega : i < 24) (by omega), zix_nI (by omega : i < 2 ^ 31), true_and]
  · simp only [if_neg g]
    by_cases g2 : 0 ≤ nI i ∧ nI i ≤ nI n - 1
    · simp (decide := true) only [if_pos g2, ↓reduceIte]
    · simp (decide := true) only [if_neg g2, ↓reduceIte]
theorem c35k (hc : zsh c) (hz : h c 1 = nI n) (h24 : n ≤ 24) (g : i < n) : zM (d + 3) 35 [.ref c, .int (nI i)] h Q = if h (c + 1) i = -2147483648 then Q (some (.int 0)) h else Q (some (.int 1)) h := by
  rw [c35 hc hz h24, if_pos g]
def s2 (c : Nat) (h h' : zH) : Prop := ∀ c', c' ≠ c → c' ≠ c + 1 → h' c' = h c'
theorem c30 (hc : zsh c) (hQ : ∀ h', s2 c h h' → h' c 0 = x0 → h' c 1 = clI 0 24 x1 → (∀ i, i < 24 → h' (c + 1) i = 0) → Q none h') : zM (d + 3) 30 [.ref c, .int x0, .int x1] h Q := by
  rw [m30]
  simp only [↓r30_0, ↓r30_1, ↓r30_2, ↓r30_5, ↓r30_6, ↓r30_7, ↓r30_8, ↓r30_10, ↓r30_13, ↓r30_16, ↓r30_17, ↓r30_19, ↓r30_21, ↓r30_24, ↓r30_25, ↓r30_28, ↓r30_29, ↓r30_30, ↓r30_31, ↓r30_34, ↓r30_37, zc_h hc, true_and, c104, clI_eq (show (0 : Int32) ≤ 24 by decide), Option.toList, List.cons_append, List.nil_append]
  have main : ∀ (f i : Nat) (h' : zH), i + f = 24 → s2 c h h' → h' c 0 = x0 → h' c 1 = clI 0 24 x1 → (∀ j, j < i → h' (c + 1) j = 0) → zR (d + 2) 30 Q 18 [some (.ref c), some (.int x0), some (.int x1), some (.int (nI i))] [] h' := by
    intro f
    induction f with
    | zero =>
      intro i h' hi e e1 e2 e3
      have hi' : i = 24 := by omega
      subst hi'
      rw [r30_18]
      simp (decide := true) only [↓r30_0, ↓r30_1, ↓r30_2, ↓r30_5, ↓r30_6, ↓r30_7, ↓r30_8, ↓r30_10, ↓r30_13, ↓r30_16, ↓r30_17, ↓r30_19, ↓r30_21, ↓r30_24, ↓r30_25, ↓r30_28, ↓r30_29, ↓r30_30, ↓r30_31, ↓r30_34, ↓r30_37, ↓reduceIte]
      exact hQ h' e e1 e2 e3
    | succ f ih =>
      intro i h' hi e e1 e2 e3
      have q : nI i < 24 := nI_lt (b := 24) (by omega) (by omega)
      rw [r30_18]
      simp only [↓r30_0, ↓r30_1, ↓r30_2, ↓r30_5, ↓r30_6, ↓r30_7, ↓r30_8, ↓r30_10, ↓r30_13, ↓r30_16, ↓r30_17, ↓r30_19, ↓r30_21, ↓r30_24, ↓r30_25, ↓r30_28, ↓r30_29, ↓r30_30, ↓r30_31, ↓r30_34, ↓r30_37, if_pos q, zc_h hc, zs_h hc, true_and, zok_nI (by omega : i < 24) (by omega), zix_nI (by omega : i < 2 ^ 31), nI_1]
      refine ih (i + 1) _ (by omega) (fun c' a b => by rw [zhr_ne _ _ b]; exact e c' a b) (by rw [zhr_ne _ _ (by omega)]; exact e1) (by rw [zhr_ne _ _ (by omega)]; exact e2) (fun j hj => ?_)
      rw [zhr_same, zup_ap]
      by_cases g : j = i
      · rw [if_pos g]
      · rw [if_neg g]; exact e3 j (by omega)
  rw [← nI_0]
  refine main 24 0 _ (by omega) (fun c' a b => by rw [zhr_ne _ _ a, zhr_ne _ _ a]) ?_ ?_ (fun j hj => absurd hj (by omega))
  · rw [zhr_same, zup_ap, if_neg (by omega), zhr_same, pk_us]
  · rw [zhr_same, pk_us, nI_0]
theorem c31 (hc : zsh c) (hb : zsh b) (hcb : c ≠ b ∧ c ≠ b + 1 ∧ c + 1 ≠ b) (hQ : ∀ h', s2 c h h' → h' c 0 = h b 0 → h' c 1 = h b 1 → (∀ i, i < 24 → h' (c + 1) i = h (b + 1) i) → Q none h') : zM (d + 2) 31 [.ref c, .ref b] h Q := by
  have q1 : ∀ (h : zH) (Q : Option Value → zH → Prop), zM (d + 1) 1003 [.ref (b + 1), .int 0, .ref (c + 1), .int 0, .int 24] h Q = Q none (zhr h (c + 1) (va_cpy (h (b + 1)) (h (c + 1)) 0 0 24)) := fun h Q => zcp (zc_h1 hb) (zc_h1 hc) (zaln_h hb) (zaln_h hc) (by decide) (by decide) (Nat.le_refl _)
  rw [m31]
  simp only [↓r31_0, ↓r31_1, ↓r31_2, ↓r31_5, ↓r31_8, ↓r31_9, ↓r31_10, ↓r31_13, ↓r31_16, ↓r31_17, ↓r31_20, ↓r31_21, ↓r31_22, ↓r31_25, ↓r31_26, ↓r31_28, ↓r31_31, zc_h hc, zc_h hb, true_and, q1, Option.toList, List.cons_append, List.nil_append]
  refine hQ _ (fun c' a e => by rw [zhr_ne _ _ e, zhr_ne _ _ a, zhr_ne _ _ a]) ?_ ?_ (fun i hi => ?_)
  · rw [zhr_ne _ _ (by omega), zhr_same, pk_un (by omega), zhr_same, pk_us]
  · rw [zhr_ne _ _ (by omega), zhr_same, pk_us, zhr_ne _ _ (by omega)]
  · rw [zhr_same, pk_cpy_in (by omega) (by omega), zhr_ne _ _ (by omega), zhr_ne _ _ (by omega)]
    congr 1; omega
/-- the sheets, one by one -/
theorem rSheets_all : rSheets h ↔ ∀ k, k < 4 → rSheet (h (35 + 2 * k)) (h (36 + 2 * k)) (h 64) (h 65) (h 66) k := by
  constructor
  · intro hS k hk
    obtain ⟨a, b, c, d⟩ := hS
    rcases (by omega : k = 0 ∨ k = 1 ∨ k = 2 ∨ k = 3) with rfl | rfl | rfl | rfl
    · exact a
    · exact b
    · exact c
    · exact d
  · intro hS
    exact ⟨hS 0 (by omega), hS 1 (by omega), hS 2 (by omega), hS 3 (by omega)⟩
theorem rSlots_all : rSlots h ↔ ∀ k, k < 5 → rSlot (h (44 + 3 * k)) (h (45 + 3 * k)) (h (46 + 3 * k)) (h 67) (h 68) (h 69) (h 70) (h 71) k := by
  constructor
  · intro hS k hk
    obtain ⟨a, b, c, d, e⟩ := hS
    rcases (by omega : k = 0 ∨ k = 1 ∨ k = 2 ∨ k = 3 ∨ k = 4) with rfl | rfl | rfl | rfl | rfl
    · exact a
    · exact b
    · exact c
    · exact d
    · exact e
  · intro hS
    exact ⟨hS 0 (by omega), hS 1 (by omega), hS 2 (by omega), hS 3 (by omega), hS 4 (by omega)⟩
/-- all but the sheets is as it was -/
theorem zRel_sh (hR : zRelN h n m N) (e : ∀ c, ¬ (35 ≤ c ∧ c ≤ 42) → c ≠ 64 → c ≠ 65 → c ≠ 66 → c ≠ 77 → h' c = h c) (hS' : rSheets h') : zRelN h' n m N := by
  obtain ⟨⟨hSt, hm⟩, hu, hI, hSh, hSl, hNu, hTa⟩ := hR
  have e0 : h' 0 = h 0 := e _ (by omega) (by omega) (by omega) (by omega) (by omega)
  have e60 : h' 60 = h 60 := e _ (by omega) (by omega) (by omega) (by omega) (by omega)
  refine ⟨⟨?_, hm⟩, by rw [e60]; exact hu, rImg_keep hI (fun c' hc' => e _ (by omega) (by omega) (by omega) (by omega) (by omega)) (by rw [e0]) (by rw [e60]), hS', rSlots_keep hSl (fun c' hc' => e _ (by omega) (by omega) (by omega) (by omega) (by omega)), ?_, ?_⟩
  · rw [e 61 (by omega) (by omega) (by omega) (by omega) (by omega)]
    exact zSt_keep hSt (fun j hj => e _ (by omega) (by omega) (by omega) (by omega) (by omega)) (fun c' a b => e _ (by omega) (by omega) (by omega) (by omega) (by omega))
  · rw [e0, e60, e 59 (by omega) (by omega) (by omega) (by omega) (by omega), e 78 (by omega) (by omega) (by omega) (by omega) (by omega)]; exact hNu
  · rw [e60, e 7 (by omega) (by omega) (by omega) (by omega) (by omega), e 8 (by omega) (by omega) (by omega) (by omega) (by omega), e 74 (by omega) (by omega) (by omega) (by omega) (by omega)]; exact hTa
theorem rSheet_cong {o f S Z g o' f' S' Z' g' : Nat → Int32} (hS : rSheet o f S Z g k) (e0 : o' = o) (e1 : f' = f) (e2 : S' k = S k) (e3 : Z' k = Z k) (e4 : ∀ i, i < 24 → g' (24 * k + i) = g (24 * k + i)) : rSheet o' f' S' Z' g' k := by
  subst e0 e1
  obtain ⟨a, b, c, d⟩ := hS
  refine ⟨by rw [e2]; exact a, by rw [e2]; exact b, by rw [e3]; exact c, fun i hi => ?_⟩
  rw [e4 i hi]
  exact d i hi
theorem x24 (k i : Nat) : 24 * nI k + nI i = nI (24 * k + i) := by rw [show (24 : Int32) = nI 24 from rfl, pk_mul, nI_add]
theorem c184_loop {lv1 lv2 lv3 : Option Value} (hk : k < 4) : ∀ (f i : Nat) (g : Nat → Int32) (h' : zH), i + f = 24 → h' 66 = g → (∀ g', (∀ j, (24 * k + i ≤ j ∧ j < 24 * k + 24 → g' j = 0) ∧ (¬ (24 * k + i ≤ j ∧ j < 24 * k + 24) → g' j = g j)) → zR (d + 1) 184 Q 95 [some (.ref 60), some (.int (nI k)), lv2, lv3, some (.int 24)] [] (zhr h' 66 g')) → zR (d + 1) 184 Q 69 [some (.ref 60), some (.int (nI k)), lv2, lv3, some (.int (nI i))] [] h' := by
  intro f
  induction f with
  | zero =>
    intro i g h' hi e hQ
    have hi' : i = 24 := by omega
    subst hi'
    rw [r184_69]
    simp (decide := true) only [↓r184_0, ↓r184_1, ↓r184_4, ↓r184_7, ↓r184_8, ↓r184_9, ↓r184_12, ↓r184_13, ↓r184_16, ↓r184_19, ↓r184_20, ↓r184_23, ↓r184_24, ↓r184_26, ↓r184_29, ↓r184_31, ↓r184_32, ↓r184_33, ↓r184_36, ↓r184_37, ↓r184_40, ↓r184_43, ↓r184_44, ↓r184_45, ↓r184_48, ↓r184_49, ↓r184_50, ↓r184_51, ↓r184_52, ↓r184_55, ↓r184_56, ↓r184_57, ↓r184_60, ↓r184_61, ↓r184_64, ↓r184_65, ↓r184_66, ↓r184_67, ↓r184_71, ↓r184_73, ↓r184_76, ↓r184_77, ↓r184_80, ↓r184_82, ↓r184_83, ↓r184_84, ↓r184_86, ↓r184_87, ↓r184_88, ↓r184_89, ↓r184_92, ↓r184_96, ↓r184_99, ↓r184_100, ↓r184_101, ↓reduceIte]
    have := hQ g (fun j => ⟨fun z => absurd z (by omega), fun _ => rfl⟩)
    rw [← e, zhr_self] at this
    exact this
  | succ f ih =>
    intro i g h' hi e hQ
    have q : nI i < 24 := nI_lt (b := 24) (by omega) (by omega)
    rw [r184_69]
    simp only [↓r184_0, ↓r184_1, ↓r184_4, ↓r184_7, ↓r184_8, ↓r184_9, ↓r184_12, ↓r184_13, ↓r184_16, ↓r184_19, ↓r184_20, ↓r184_23, ↓r184_24, ↓r184_26, ↓r184_29, ↓r184_31, ↓r184_32, ↓r184_33, ↓r184_36, ↓r184_37, ↓r184_40, ↓r184_43, ↓r184_44, ↓r184_45, ↓r184_48, ↓r184_49, ↓r184_50, ↓r184_51, ↓r184_52, ↓r184_55, ↓r184_56, ↓r184_57, ↓r184_60, ↓r184_61, ↓r184_64, ↓r184_65, ↓r184_66, ↓r184_67, ↓r184_71, ↓r184_73, ↓r184_76, ↓r184_77, ↓r184_80, ↓r184_82, ↓r184_83, ↓r184_84, ↓r184_86, ↓r184_87, ↓r184_88, ↓r184_89, ↓r184_92, ↓r184_96, ↓r184_99, ↓r184_100, ↓r184_101, if_pos q, zs_66, x24, zok_nI (by omega : 24 * k + i < 96) (by omega), zix_nI (by omega : 24 * k + i < 2 ^ 31), nI_1, true_and]
    refine ih (i + 1) _ _ (by omega) (zhr_same _ _ _) (fun g' hg' => ?_)
    rw [zhr_zhr]
    refine hQ g' (fun j => ⟨fun z => ?_, fun z => ?_⟩)
    · by_cases q2 : j = 24 * k + i
      · rw [(hg' j).2 (by omega), q2, pk_us]
      · exact (hg' j).1 (by omega)
    · rw [(hg' j).2 (by omega), pk_un (by omega), e]
theorem p_sheet : zPair (d + 20) (d + 20) 86 184 [.int x0, .int x1, .int x2] := by
  intro h Q2 hR hQ
  have hR0 := hR
  obtain ⟨n, m, N, hRN⟩ := hR
  obtain ⟨-, -, -, hSh, -⟩ := id hRN
  rw [rSheets_all] at hSh
  by_cases g0 : 0 ≤ x0 ∧ x0 ≤ 3
  · obtain ⟨k, hk, rfl⟩ := hasN (q := 3) (by decide) g0
    have hk4 : k < 4 := by omega
    have hc := zsh_k hk4
    have hend : ∀ (h1 : zH) (z : Nat), z ≤ 24 → s2 (35 + 2 * k) h h1 → h1 (35 + 2 * k) 0 = x1 → (x1 = -1 ∨ x1 = 0 ∨ x1 = 1) → h1 (35 + 2 * k) 1 = nI z → (∀ i, i < 24 → h1 (35 + 2 * k + 1) i = 0) → zR (d + 19) 184 (zPq (nI z) Q2) 66 [some (.ref 60), some (.int (nI k)), some (.int x1), some (.int x2), none] [] (zhr (zhr h1 64 (upd (h1 64) k x1)) 65 (upd (h1 65) k (nI z))) := by
      intro h1 z hz e1 e2 e2s e3 e4
      simp only [↓r184_0, ↓r184_1, ↓r184_4, ↓r184_7, ↓r184_8, ↓r184_9, ↓r184_12, ↓r184_13, ↓r184_16, ↓r184_19, ↓r184_20, ↓r184_23, ↓r184_24, ↓r184_26, ↓r184_29, ↓r184_31, ↓r184_32, ↓r184_33, ↓r184_36, ↓r184_37, ↓r184_40, ↓r184_43, ↓r184_44, ↓r184_45, ↓r184_48, ↓r184_49, ↓r184_50, ↓r184_51, ↓r184_52, ↓r184_55, ↓r184_56, ↓r184_57, ↓r184_60, ↓r184_61, ↓r184_64, ↓r184_65, ↓r184_66, ↓r184_67, ↓r184_71, ↓r184_73, ↓r184_76, ↓r184_77, ↓r184_80, ↓r184_82, ↓r184_83, ↓r184_84, ↓r184_86, ↓r184_87, ↓r184_88, ↓r184_89, ↓r184_92, ↓r184_95, ↓r184_96, ↓r184_99, ↓r184_100, ↓r184_101]
      rw [← nI_0]
      refine c184_loop (d := d + 18) (lv1 := none) hk4 24 0 _ _ (by omega) rfl (fun g' hg' => ?_)
      simp only [↓r184_0, ↓r184_1, ↓r184_4, ↓r184_7, ↓r184_8, ↓r184_9, ↓r184_12, ↓r184_13, ↓r184_16, ↓r184_19, ↓r184_20, ↓r184_23, ↓r184_24, ↓r184_26, ↓r184_29, ↓r184_31, ↓r184_32, ↓r184_33, ↓r184_36, ↓r184_37, ↓r184_40, ↓r184_43, ↓r184_44, ↓r184_45, ↓r184_48, ↓r184_49, ↓r184_50, ↓r184_51, ↓r184_52, ↓r184_55, ↓r184_56, ↓r184_57, ↓r184_60, ↓r184_61, ↓r184_64, ↓r184_65, ↓r184_66, ↓r184_67, ↓r184_71, ↓r184_73, ↓r184_76, ↓r184_77, ↓r184_80, ↓r184_82, ↓r184_83, ↓r184_84, ↓r184_86, ↓r184_87, ↓r184_88, ↓r184_89, ↓r184_92, ↓r184_95, ↓r184_96, ↓r184_99, ↓r184_100, ↓r184_101, zl_65, zhr_ne _ _ (by omega : 65 ≠ 66), zhr_same, zok_nI hk4 (by omega), zix_nI (by omega : k < 2 ^ 31), true_and, pk_us]
      have o : ∀ c, c ≠ 35 + 2 * k → c ≠ 36 + 2 * k → c ≠ 64 → c ≠ 65 → c ≠ 66 → zhr (zhr (zhr h1 64 (upd (h1 64) k x1)) 65 (upd (h1 65) k (nI z))) 66 g' c = h c := by
        intro c a1 a2 a3 a4 a5
        rw [zhr_ne _ _ a5, zhr_ne _ _ a4, zhr_ne _ _ a3]
        exact e1 c a1 (by omega)
      refine zPq_in rfl (hQ _ _ ⟨n, m, N, zRel_sh hRN (fun c a1 a2 a3 a4 _ => o c (by omega) (by omega) a2 a3 a4) ?_⟩ (o _ (by omega) (by omega) (by omega) (by omega) (by omega)) (o _ (by omega) (by omega) (by omega) (by omega) (by omega)))
      rw [rSheets_all]
      intro j hj
      have hSj := hSh j hj
      by_cases gj : j = k
      · subst gj
        refine ⟨?_, ?_, ⟨z, hz, ?_, ?_⟩, fun i hi => Or.inr ?_⟩
        · rw [zhr_ne _ _ (by omega), zhr_ne _ _ (by omega), zhr_ne _ _ (by omega), zhr_ne _ _ (by omega), zhr_ne _ _ (by omega), zhr_same, pk_us]
          exact e2
        · rw [zhr_ne _ _ (by omega), zhr_ne _ _ (by omega), zhr_same, pk_us]
          exact e2s
        · rw [zhr_ne _ _ (by omega), zhr_same, pk_us]
        · rw [zhr_ne _ _ (by omega), zhr_ne _ _ (by omega), zhr_ne _ _ (by omega)]
          exact e3
        · rw [zhr_same, (hg' _).1 (by omega), zhr_ne _ _ (by omega), zhr_ne _ _ (by omega), zhr_ne _ _ (by omega), show 36 + 2 * j = 35 + 2 * j + 1 by omega, e4 i hi]
          decide
      · refine rSheet_cong hSj (o _ (by omega) (by omega) (by omega) (by omega) (by omega)) (o _ (by omega) (by omega) (by omega) (by omega) (by omega)) ?_ ?_ (fun i hi => ?_)
        · rw [zhr_ne _ _ (by omega), zhr_ne _ _ (by omega), zhr_same, pk_un gj, e1 _ (by omega) (by omega)]
        · rw [zhr_ne _ _ (by omega), zhr_same, pk_un gj, e1 _ (by omega) (by omega)]
        · rw [zhr_same, (hg' _).2 (by omega), zhr_ne _ _ (by omega), zhr_ne _ _ (by omega), e1 _ (by omega) (by omega)]
    rw [m86]
    simp (decide := true) only [↓r86_0, ↓r86_1, ↓r86_2, ↓r86_5, ↓r86_5n, ↓r86_7, ↓r86_7n, ↓r86_9, ↓r86_9n, ↓r86_12, ↓r86_13, ↓r86_14, ↓r86_15, ↓r86_18, ↓r86_21, ↓r86_23, ↓r86_24, ↓r86_25, ↓r86_26, ↓r86_29, ↓r86_29n, ↓r86_31, ↓r86_32, ↓r86_33, ↓r86_36, ↓r86_37, ↓r86_38, ↓r86_39, ↓r86_41, ↓r86_44, ↓r86_46, ↓r86_47, ↓r86_48, ↓r86_51, ↓r86_53, ↓r86_54, ↓r86_54n, ↓r86_56, ↓r86_57, ↓r86_58, ↓r86_61, ↓r86_62, c95k hk4, c103, Option.toList, List.cons_append, List.nil_append]
    by_cases g1 : -1 ≤ x1 ∧ x1 ≤ 1
    · simp (decide := true) only [if_pos g1, ↓reduceIte]
      by_cases g2 : x1 = -1
      · subst g2
        simp (decide := true) only [↓reduceIte, zc_h hc, true_and]
        refine c30 hc fun h1 e1 e2 e3 e4 => ?_
        simp only [↓r86_0, ↓r86_1, ↓r86_2, ↓r86_5, ↓r86_5n, ↓r86_7, ↓r86_7n, ↓r86_9, ↓r86_9n, ↓r86_12, ↓r86_13, ↓r86_14, ↓r86_15, ↓r86_18, ↓r86_21, ↓r86_23, ↓r86_24, ↓r86_25, ↓r86_26, ↓r86_29, ↓r86_29n, ↓r86_31, ↓r86_32, ↓r86_33, ↓r86_36, ↓r86_37, ↓r86_38, ↓r86_39, ↓r86_41, ↓r86_44, ↓r86_46, ↓r86_47, ↓r86_48, ↓r86_51, ↓r86_53, ↓r86_54, ↓r86_54n, ↓r86_56, ↓r86_57, ↓r86_58, ↓r86_61, ↓r86_62, Option.toList, List.cons_append, List.nil_append]
        refine zPo_in (e1 _ (by omega) (by omega)) (e1 _ (by omega) (by omega)) ?_
        rw [m184]
        simp (decide := true) only [↓r184_0, ↓r184_1, ↓r184_4, ↓r184_7, ↓r184_8, ↓r184_9, ↓r184_12, ↓r184_13, ↓r184_16, ↓r184_19, ↓r184_20, ↓r184_23, ↓r184_24, ↓r184_26, ↓r184_29, ↓r184_31, ↓r184_32, ↓r184_33, ↓r184_36, ↓r184_37, ↓r184_40, ↓r184_43, ↓r184_44, ↓r184_45, ↓r184_48, ↓r184_49, ↓r184_50, ↓r184_51, ↓r184_52, ↓r184_55, ↓r184_56, ↓r184_57, ↓r184_60, ↓r184_61, ↓r184_64, ↓r184_65, ↓r184_67, ↓r184_69, ↓r184_71, ↓r184_73, ↓r184_76, ↓r184_77, ↓r184_80, ↓r184_82, ↓r184_83, ↓r184_84, ↓r184_86, ↓r184_87, ↓r184_88, ↓r184_89, ↓r184_92, ↓r184_95, ↓r184_96, ↓r184_99, ↓r184_100, ↓r184_101, c183, c106, if_pos g0, ↓reduceIte, Option.toList, List.cons_append, List.nil_append, zs_64, zs_65, zok_nI hk4 (by omega), zix_nI (by omega : k < 2 ^ 31), true_and]
        exact hend h1 0 (by omega) e1 e2 (Or.inl rfl) e3 e4
      · have g3 : ¬ x1 < 0 := by grind
        have g3' : x1 = 0 ∨ x1 = 1 := b01_of ⟨by grind, g1.2⟩
        have g4 : (¬ x1 < 0) = True := eq_true g3
        rw [if_neg g2]
        by_cases g5 : x2 ≤ 24
        · rw [if_pos g5]
          by_cases g6 : x2 < 0
          · rw [if_pos g6]
            refine zPo_in rfl rfl ?_
            rw [m184]
            simp (decide := true) only [↓r184_0, ↓r184_1, ↓r184_4, ↓r184_7, ↓r184_8, ↓r184_9, ↓r184_12, ↓r184_13, ↓r184_16, ↓r184_19, ↓r184_20, ↓r184_23, ↓r184_24, ↓r184_26, ↓r184_29, ↓r184_31, ↓r184_32, ↓r184_33, ↓r184_36, ↓r184_37, ↓r184_40, ↓r184_43, ↓r184_44, ↓r184_45, ↓r184_48, ↓r184_49, ↓r184_50, ↓r184_51, ↓r184_52, ↓r184_55, ↓r184_56, ↓r184_57, ↓r184_60, ↓r184_61, ↓r184_64, ↓r184_65, ↓r184_67, ↓r184_69, ↓r184_71, ↓r184_73, ↓r184_76, ↓r184_77, ↓r184_80, ↓r184_82, ↓r184_83, ↓r184_84, ↓r184_86, ↓r184_87, ↓r184_88, ↓r184_89, ↓r184_92, ↓r184_95, ↓r184_96, ↓r184_99, ↓r184_100, ↓r184_101, c183, c106, if_pos g0, if_pos g1, if_neg g3, if_pos g5, if_pos g6, ↓reduceIte, Option.toList, List.cons_append, List.nil_append, true_and]
            exact zPq_in rfl (hQ _ _ hR0 rfl rfl)
          · rw [if_neg g6]
            obtain ⟨z, hz, rfl⟩ := nI_of2 (M := 24) (n := 24) (by decide) g6 g5
            simp only [zc_h hc, true_and]
            refine c30 hc fun h1 e1 e2 e3 e4 => ?_
            have e3' : h1 (35 + 2 * k) 1 = nI z := by
              rw [e3]
              exact (if_neg g6).trans (if_pos g5)
            simp only [↓r86_0, ↓r86_1, ↓r86_2, ↓r86_5, ↓r86_5n, ↓r86_7, ↓r86_7n, ↓r86_9, ↓r86_9n, ↓r86_12, ↓r86_13, ↓r86_14, ↓r86_15, ↓r86_18, ↓r86_21, ↓r86_23, ↓r86_24, ↓r86_25, ↓r86_26, ↓r86_29, ↓r86_29n, ↓r86_31, ↓r86_32, ↓r86_33, ↓r86_36, ↓r86_37, ↓r86_38, ↓r86_39, ↓r86_41, ↓r86_44, ↓r86_46, ↓r86_47, ↓r86_48, ↓r86_51, ↓r86_53, ↓r86_54, ↓r86_54n, ↓r86_56, ↓r86_57, ↓r86_58, ↓r86_61, ↓r86_62, Option.toList, List.cons_append, List.nil_append]
            refine zPo_in (e1 _ (by omega) (by omega)) (e1 _ (by omega) (by omega)) ?_
            rw [m184]
            simp (decide := true) only [↓r184_0, ↓r184_1, ↓r184_4, ↓r184_7, ↓r184_8, ↓r184_9, ↓r184_12, ↓r184_13, ↓r184_16, ↓r184_19, ↓r184_20, ↓r184_23, ↓r184_24, ↓r184_26, ↓r184_29, ↓r184_31, ↓r184_32, ↓r184_33, ↓r184_36, ↓r184_37, ↓r184_40, ↓r184_43, ↓r184_44, ↓r184_45, ↓r184_48, ↓r184_49, ↓r184_50, ↓r184_51, ↓r184_52, ↓r184_55, ↓r184_56, ↓r184_57, ↓r184_60, ↓r184_61, ↓r184_64, ↓r184_65, ↓r184_67, ↓r184_69, ↓r184_71, ↓r184_73, ↓r184_76, ↓r184_77, ↓r184_80, ↓r184_82, ↓r184_83, ↓r184_84, ↓r184_86, ↓r184_87, ↓r184_88, ↓r184_89, ↓r184_92, ↓r184_95, ↓r184_96, ↓r184_99, ↓r184_100, ↓r184_101, c183, c106, if_pos g0, if_pos g1, if_neg g3, if_pos g5, if_neg g6, ↓reduceIte, Option.toList, List.cons_append, List.nil_append, zs_64, zs_65, zok_nI hk4 (by omega), zix_nI (by omega : k < 2 ^ 31), true_and]
            exact hend h1 z hz e1 e2 (Or.inr g3') e3' e4
        · rw [if_neg g5]
          refine zPo_in rfl rfl ?_
          rw [m184]
          simp (decide := true) only [↓r184_0, ↓r184_1, ↓r184_4, ↓r184_7, ↓r184_8, ↓r184_9, ↓r184_12, ↓r184_13, ↓r184_16, ↓r184_19, ↓r184_20, ↓r184_23, ↓r184_24, ↓r184_26, ↓r184_29, ↓r184_31, ↓r184_32, ↓r184_33, ↓r184_36, ↓r184_37, ↓r184_40, ↓r184_43, ↓r184_44, ↓r184_45, ↓r184_48, ↓r184_49, ↓r184_50, ↓r184_51, ↓r184_52, ↓r184_55, ↓r184_56, ↓r184_57, ↓r184_60, ↓r184_61, ↓r184_64, ↓r184_65, ↓r184_67, ↓r184_69, ↓r184_71, ↓r184_73, ↓r184_76, ↓r184_77, ↓r184_80, ↓r184_82, ↓r184_83, ↓r184_84, ↓r184_86, ↓r184_87, ↓r184_88, ↓r184_89, ↓r184_92, ↓r184_95, ↓r184_96, ↓r184_99, ↓r184_100, ↓r184_101, c183, c106, if_pos g0, if_pos g1, if_neg g3, if_neg g5, ↓reduceIte, Option.toList, List.cons_append, List.nil_append, true_and]
          exact zPq_in rfl (hQ _ _ hR0 rfl rfl)
    · simp (decide := true) only [if_neg g1, ↓reduceIte]
      refine zPo_in rfl rfl ?_
      rw [m184]
      simp (decide := true) only [↓r184_0, ↓r184_1, ↓r184_4, ↓r184_7, ↓r184_8, ↓r184_9, ↓r184_12, ↓r184_13, ↓r184_16, ↓r184_19, ↓r184_20, ↓r184_23, ↓r184_24, ↓r184_26, ↓r184_29, ↓r184_31, ↓r184_32, ↓r184_33, ↓r184_36, ↓r184_37, ↓r184_40, ↓r184_43, ↓r184_44, ↓r184_45, ↓r184_48, ↓r184_49, ↓r184_50, ↓r184_51, ↓r184_52, ↓r184_55, ↓r184_56, ↓r184_57, ↓r184_60, ↓r184_61, ↓r184_64, ↓r184_65, ↓r184_67, ↓r184_69, ↓r184_71, ↓r184_73, ↓r184_76, ↓r184_77, ↓r184_80, ↓r184_82, ↓r184_83, ↓r184_84, ↓r184_86, ↓r184_87, ↓r184_88, ↓r184_89, ↓r184_92, ↓r184_95, ↓r184_96, ↓r184_99, ↓r184_100, ↓r184_101, c183, c106, if_pos g0, if_neg g1, ↓reduceIte, Option.toList, List.cons_append, List.nil_append, true_and]
      exact zPq_in rfl (hQ _ _ hR0 rfl rfl)
  · rw [m86]
    simp (decide := true) only [↓r86_0, ↓r86_1, ↓r86_2, ↓r86_5, ↓r86_5n, ↓r86_7, ↓r86_7n, ↓r86_9, ↓r86_9n, ↓r86_12, ↓r86_13, ↓r86_14, ↓r86_15, ↓r86_18, ↓r86_21, ↓r86_23, ↓r86_24, ↓r86_25, ↓r86_26, ↓r86_29, ↓r86_29n, ↓r86_31, ↓r86_32, ↓r86_33, ↓r86_36, ↓r86_37, ↓r86_38, ↓r86_39, ↓r86_41, ↓r86_44, ↓r86_46, ↓r86_47, ↓r86_48, ↓r86_51, ↓r86_53, ↓r86_54, ↓r86_54n, ↓r86_56, ↓r86_57, ↓r86_58, ↓r86_61, ↓r86_62, c95n g0, Option.toList, List.cons_append, List.nil_append]
    refine zPo_in rfl rfl ?_
    rw [m184]
    simp (decide := true) only [↓r184_0, ↓r184_1, ↓r184_4, ↓r184_7, ↓r184_8, ↓r184_9, ↓r184_12, ↓r184_13, ↓r184_16, ↓r184_19, ↓r184_20, ↓r184_23, ↓r184_24, ↓r184_26, ↓r184_29, ↓r184_31, ↓r184_32, ↓r184_33, ↓r184_36, ↓r184_37, ↓r184_40, ↓r184_43, ↓r184_44, ↓r184_45, ↓r184_48, ↓r184_49, ↓r184_50, ↓r184_51, ↓r184_52, ↓r184_55, ↓r184_56, ↓r184_57, ↓r184_60, ↓r184_61, ↓r184_64, ↓r184_65, ↓r184_67, ↓r184_69, ↓r184_71, ↓r184_73, ↓r184_76, ↓r184_77, ↓r184_80, ↓r184_82, ↓r184_83, ↓r184_84, ↓r184_86, ↓r184_87, ↓r184_88, ↓r184_89, ↓r184_92, ↓r184_95, ↓r184_96, ↓r184_99, ↓r184_100, ↓r184_101, c183, if_neg g0, ↓reduceIte, Option.toList, List.cons_append, List.nil_append, true_and]
    exact zPq_in rfl (hQ _ _ hR0 rfl rfl)
end
