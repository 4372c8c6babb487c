/-! what TEXTS give, what loads pay, what the posts bear -/
abbrev zTau : Type := Nat → Option (Int32 → Int32 → Int32 → Int32)
def clI (lo hi v : Int32) : Int32 := if v < lo then lo else if v ≤ hi then v else hi
def pToll (f : Option (Int32 → Int32 → Int32 → Int32)) (w st wt : Int32) : Int32 := match f with
  | none => w
  | some g => clI 0 999 (g w st wt)
def pPull (f : Option (Int32 → Int32 → Int32 → Int32)) (st w sl : Int32) : Int32 := match f with
  | none => st * (w + 20) / 10
  | some g => clI 0 9999 (g st w sl)
/-- the texts that count, as a State of the class has them -/
def zTC (h : zH) (c : Nat) (τ : zTau) : Prop := ∀ key, key < 3 → (h (c + 7) key < 0 ∧ τ key = none) ∨ ∃ t m, t < 14 ∧ m ≤ 96 ∧ h (c + 7) key = nI t ∧ h 4 t = nI m ∧ τ key = some (vC (fun i => h 5 (96 * t + i)) m)
def lastT (s : Nat → Int32) (key : Int32) (n : Nat) : Int32 := zfo (fun i a => if s (62 + 200 * i) = key then nI i else a) n (-1)
def kChr (key j : Nat) : Int32 := zkon 83 (3 * key + j)
def stepR (key : Nat) (what v w : Int32) : Prop := (what = 0 ∧ 0 ≤ w ∧ v = w) ∨ (what = 1 ∧ ∃ j, j < 3 ∧ w = -1 - nI j ∧ v = kChr key j ∧ ¬ (key = 2 ∧ j = 2)) ∨ (what = 2 ∧ v = 33 ∧ w = -33) ∨ (what = 2 ∧ zsgn v ∧ w = -v)
/-- the texts that count, as the reference's row has them -/
def zTR (s : Nat → Int32) (τ : zTau) : Prop := ∃ n, n ≤ 14 ∧ s 1 = nI n ∧ ∀ key, key < 3 → (lastT s (nI key) n < 0 ∧ τ key = none) ∨ ∃ t m w, t < 14 ∧ m ≤ 96 ∧ lastT s (nI key) n = nI t ∧ s (62 + 200 * t + 2) = nI m ∧ (∀ i, i < m → stepR key (s (62 + 200 * t + 4 + 2 * i)) (s (62 + 200 * t + 4 + 2 * i + 1)) (w i)) ∧ wWF w m ∧ τ key = some (vC w m)
section
variable {d : Nat} {Q : Option Value → zH → Prop} {h : zH} {x x0 x1 x2 x3 x4 : Int32} {c n k : Nat} {τ : zTau}
theorem clI_eq {lo hi v : Int32} (hl : lo ≤ hi) : (if lo < (if v < hi then v else hi) then (if v < hi then v else hi) else lo) = clI lo hi v := by
  unfold clI
  grind
theorem clI_in {lo hi v : Int32} (hl : lo ≤ hi) : lo ≤ clI lo hi v ∧ clI lo hi v ≤ hi := by
  unfold clI
  constructor <;> grind
theorem c108c : zM (d + 1) 108 [.int x0, .int x1, .int x2] h Q = Q (some (.int (clI x1 x2 x0))) h := c108
theorem c179 (hn : h 61 1 = nI n) (h14 : n ≤ 14) : zM (d + 2) 179 [.ref 60, .int x0] h Q = Q (some (.int (lastT (h 61) x0 n))) h := by
  rw [m179]
  simp only [↓r179_0, ↓r179_1, ↓r179_2, ↓r179_3, ↓r179_5, ↓r179_6, ↓r179_9, ↓r179_10, ↓r179_11, ↓r179_14, ↓r179_15, ↓r179_18, ↓r179_19, ↓r179_20, ↓r179_23, ↓r179_24, ↓r179_25, ↓r179_28, ↓r179_29, ↓r179_32, ↓r179_33, ↓r179_34, ↓r179_37, ↓r179_40, ↓r179_41]
  have hs : ∀ (i : Nat) (a : Int32), i < n → zR (d + 1) 179 Q 4 [some (.ref 60), some (.int x0), some (.int a), some (.int (nI i))] [] h = zR (d + 1) 179 Q 4 [some (.ref 60), some (.int x0), some (.int (if h 61 (62 + 200 * i) = x0 then nI i else a)), some (.int (nI (i + 1)))] [] h := by
    intro i a hi
    have ea : 62 + 200 * nI i = nI (62 + 200 * i) := by rw [show (62 : Int32) = nI 62 from rfl, show (200 : Int32) = nI 200 from rfl, pk_mul, nI_add]
    rw [r179_4]
    simp only [↓r179_0, ↓r179_1, ↓r179_2, ↓r179_3, ↓r179_5, ↓r179_6, ↓r179_9, ↓r179_10, ↓r179_11, ↓r179_14, ↓r179_15, ↓r179_18, ↓r179_19, ↓r179_20, ↓r179_23, ↓r179_24, ↓r179_25, ↓r179_28, ↓r179_29, ↓r179_32, ↓r179_33, ↓r179_34, ↓r179_37, ↓r179_40, ↓r179_41, zl_61, zok1, zix1, true_and, hn, nI_lt hi (by omega : n < 2 ^ 31), if_true, c112, ea, zok_nI (by omega : 62 + 200 * i < 3062) (by omega), zix_nI (by omega : 62 + 200 * i < 2 ^ 31), Option.toList, List.cons_append, List.nil_append, nI_1]
    split <;> rfl
  have := zloop (fun i a => zR (d + 1) 179 Q 4 [some (.ref 60), some (.int x0), some (.int a), some (.int (nI i))] [] h) _ n hs (-1)
  simp only [nI_0] at this
  rw [this, r179_4]
  simp only [↓r179_0, ↓r179_1, ↓r179_2, ↓r179_3, ↓r179_5, ↓r179_6, ↓r179_9, ↓r179_10, ↓r179_11, ↓r179_14, ↓r179_15, ↓r179_18, ↓r179_19, ↓r179_20, ↓r179_23, ↓r179_24, ↓r179_25, ↓r179_28, ↓r179_29, ↓r179_32, ↓r179_33, ↓r179_34, ↓r179_37, ↓r179_40, ↓r179_41, zl_61, zok1, zix1, true_and, hn, nI_nlt (Nat.le_refl n) (by omega), if_false, lastT]
theorem kPl (hc : zst c) : zok 0 3 = True ∧ zok 1 3 = True ∧ zok 2 3 = True ∧ zok 3 6 = True ∧ zok 1 6 = True := by
  unfold zok; decide
theorem c43 (hc : zst c) (hn : h c 1 = nI n) (h10 : n ≤ 10) (hk : k < n) (hT : zTC h c τ) (hw : 0 ≤ h (c + 2) k ∧ h (c + 2) k ≤ 999) (hQ : ∀ st', Q (some (.int (kPays (h (c + 1) k) (pToll (τ 0) (h (c + 2) k) (h (c + 6) 3) (h (c + 4) k))))) (zhr h 6 st')) : zM (d + 3) 43 [.ref c, .int (nI k)] h Q := by
  rw [m43]
  obtain ⟨z1, z2, z3, z4, z5⟩ := kPl hc
  have hkn : nI k ≤ nI n - 1 := by rw [nI_s1 (by omega)]; exact nI_le (by omega) (by omega)
  have hne : ∀ j, c + j ≠ 6 := by intro j; rcases hc with rfl | rfl | rfl <;> omega
  simp only [↓r43_0, ↓r43_1, ↓r43_2, ↓r43_5, ↓r43_8, ↓r43_9, ↓r43_10, ↓r43_11, ↓r43_14, ↓r43_15, ↓r43_16, ↓r43_17, ↓r43_18, ↓r43_21, ↓r43_22, ↓r43_25, ↓r43_26, ↓r43_27, ↓r43_30, ↓r43_31, ↓r43_34, ↓r43_35, ↓r43_36, ↓r43_39, ↓r43_40, ↓r43_41, ↓r43_42, ↓r43_45, ↓r43_46, ↓r43_47, ↓r43_48, ↓r43_51, ↓r43_52, ↓r43_53, ↓r43_56, ↓r43_57, ↓r43_58, ↓r43_61, ↓r43_62, ↓r43_63, ↓r43_64, ↓r43_65, ↓r43_68, ↓r43_71, ↓r43_74, c37 hc, hn, nI_pos' (by omega : k < 2 ^ 31), hkn, and_self, if_true, Option.toList, List.cons_append, List.nil_append, zl_s1 hc, zs_s1 hc, zn_s1 hc, zl_s2 hc, zs_s2 hc, zn_s2 hc, zl_s3 hc, zs_s3 hc, zn_s3 hc, zl_s4 hc, zs_s4 hc, zn_s4 hc, zl_s5 hc, zs_s5 hc, zn_s5 hc, zl_s6 hc, zs_s6 hc, zn_s6 hc, zl_s7 hc, zs_s7 hc, zn_s7 hc, zc_s hc, true_and, z1, z4, zix0, zok_nI (by omega : k < 10) (by omega), zix_nI (by omega : k < 2 ^ 31)]
  rw [if_neg (by decide)]
  have e999 : (0 : Int32) ≤ 999 := by decide
  have hcl : ∀ v, 0 ≤ v → v ≤ 999 → clI 0 999 v = v := by intro v h1 h2; unfold clI; grind
  rcases hT 0 (by omega) with ⟨t1, t2⟩ | ⟨t, m, g1, g2, g3, g4, g5⟩
  · have hQ' := hQ (h 6)
    rw [zhr_self, t2] at hQ'
    simp only [if_pos t1, c104, clI_eq e999, Option.toList, List.cons_append, List.nil_append, ↓r43_0, ↓r43_1, ↓r43_2, ↓r43_5, ↓r43_8, ↓r43_9, ↓r43_10, ↓r43_11, ↓r43_14, ↓r43_15, ↓r43_16, ↓r43_17, ↓r43_18, ↓r43_21, ↓r43_22, ↓r43_25, ↓r43_26, ↓r43_27, ↓r43_30, ↓r43_31, ↓r43_34, ↓r43_35, ↓r43_36, ↓r43_39, ↓r43_40, ↓r43_41, ↓r43_42, ↓r43_45, ↓r43_46, ↓r43_47, ↓r43_48, ↓r43_51, ↓r43_52, ↓r43_53, ↓r43_56, ↓r43_57, ↓r43_58, ↓r43_61, ↓r43_62, ↓r43_63, ↓r43_64, ↓r43_65, ↓r43_68, ↓r43_71, ↓r43_74]
    rw [c2 (clI_in e999).1 (clI_in e999).2]
    simp only [Option.toList, List.cons_append, List.nil_append, ↓r43_0, ↓r43_1, ↓r43_2, ↓r43_5, ↓r43_8, ↓r43_9, ↓r43_10, ↓r43_11, ↓r43_14, ↓r43_15, ↓r43_16, ↓r43_17, ↓r43_18, ↓r43_21, ↓r43_22, ↓r43_25, ↓r43_26, ↓r43_27, ↓r43_30, ↓r43_31, ↓r43_34, ↓r43_35, ↓r43_36, ↓r43_39, ↓r43_40, ↓r43_41, ↓r43_42, ↓r43_45, ↓r43_46, ↓r43_47, ↓r43_48, ↓r43_51, ↓r43_52, ↓r43_53, ↓r43_56, ↓r43_57, ↓r43_58, ↓r43_61, ↓r43_62, ↓r43_63, ↓r43_64, ↓r43_65, ↓r43_68, ↓r43_71, ↓r43_74, hcl _ hw.1 hw.2]
    exact hQ'
  · have t0 : ¬ nI t < 0 := nI_pos (by omega)
    simp only [g3, if_neg t0]
    refine c7 g1 g2 g4 (fun st' => ?_)
    have hQ' := hQ st'
    rw [g5] at hQ'
    have n1 : ∀ j, c + j ≠ 6 := hne
    simp only [Option.toList, List.cons_append, List.nil_append, ↓r43_0, ↓r43_1, ↓r43_2, ↓r43_5, ↓r43_8, ↓r43_9, ↓r43_10, ↓r43_11, ↓r43_14, ↓r43_15, ↓r43_16, ↓r43_17, ↓r43_18, ↓r43_21, ↓r43_22, ↓r43_25, ↓r43_26, ↓r43_27, ↓r43_30, ↓r43_31, ↓r43_34, ↓r43_35, ↓r43_36, ↓r43_39, ↓r43_40, ↓r43_41, ↓r43_42, ↓r43_45, ↓r43_46, ↓r43_47, ↓r43_48, ↓r43_51, ↓r43_52, ↓r43_53, ↓r43_56, ↓r43_57, ↓r43_58, ↓r43_61, ↓r43_62, ↓r43_63, ↓r43_64, ↓r43_65, ↓r43_68, ↓r43_71, ↓r43_74, zl_s1 hc, zs_s1 hc, zn_s1 hc, zl_s2 hc, zs_s2 hc, zn_s2 hc, zl_s3 hc, zs_s3 hc, zn_s3 hc, zl_s4 hc, zs_s4 hc, zn_s4 hc, zl_s5 hc, zs_s5 hc, zn_s5 hc, zl_s6 hc, zs_s6 hc, zn_s6 hc, zl_s7 hc, zs_s7 hc, zn_s7 hc, zc_s hc, true_and, zhr_ap, hne, if_false, zok_nI (by omega : k < 10) (by omega), zix_nI (by omega : k < 2 ^ 31), c104, clI_eq e999]
    rw [c2 (clI_in e999).1 (clI_in e999).2]
    simp only [Option.toList, List.cons_append, List.nil_append, ↓r43_0, ↓r43_1, ↓r43_2, ↓r43_5, ↓r43_8, ↓r43_9, ↓r43_10, ↓r43_11, ↓r43_14, ↓r43_15, ↓r43_16, ↓r43_17, ↓r43_18, ↓r43_21, ↓r43_22, ↓r43_25, ↓r43_26, ↓r43_27, ↓r43_30, ↓r43_31, ↓r43_34, ↓r43_35, ↓r43_36, ↓r43_39, ↓r43_40, ↓r43_41, ↓r43_42, ↓r43_45, ↓r43_46, ↓r43_47, ↓r43_48, ↓r43_51, ↓r43_52, ↓r43_53, ↓r43_56, ↓r43_57, ↓r43_58, ↓r43_61, ↓r43_62, ↓r43_63, ↓r43_64, ↓r43_65, ↓r43_68, ↓r43_71, ↓r43_74]
    exact hQ'
theorem c45 (hc : zst c) (hT : zTC h c τ) (hQ : ∀ st', Q (some (.int (pPull (τ 1) x0 x1 (h (c + 6) 1)))) (zhr h 6 st')) : zM (d + 3) 45 [.ref c, .int x0, .int x1] h Q := by
  rw [m45]
  obtain ⟨z1, z2, z3, z4, z5⟩ := kPl hc
  have e999 : (0 : Int32) ≤ 9999 := by decide
  simp only [↓r45_0, ↓r45_1, ↓r45_4, ↓r45_5, ↓r45_6, ↓r45_7, ↓r45_8, ↓r45_11, ↓r45_12, ↓r45_13, ↓r45_15, ↓r45_16, ↓r45_17, ↓r45_19, ↓r45_20, ↓r45_21, ↓r45_22, ↓r45_25, ↓r45_26, ↓r45_27, ↓r45_28, ↓r45_29, ↓r45_32, ↓r45_33, ↓r45_34, ↓r45_37, ↓r45_38, ↓r45_41, ↓r45_44, zl_s1 hc, zs_s1 hc, zn_s1 hc, zl_s2 hc, zs_s2 hc, zn_s2 hc, zl_s3 hc, zs_s3 hc, zn_s3 hc, zl_s4 hc, zs_s4 hc, zn_s4 hc, zl_s5 hc, zs_s5 hc, zn_s5 hc, zl_s6 hc, zs_s6 hc, zn_s6 hc, zl_s7 hc, zs_s7 hc, zn_s7 hc, zc_s hc, true_and, z2, z5, zix1]
  rcases hT 1 (by omega) with ⟨t1, t2⟩ | ⟨t, m, g1, g2, g3, g4, g5⟩
  · have hQ' := hQ (h 6)
    rw [zhr_self, t2] at hQ'
    simp only [if_pos t1]
    exact hQ'
  · have t0 : ¬ nI t < 0 := nI_pos (by omega)
    simp only [g3, if_neg t0]
    refine c7 g1 g2 g4 (fun st' => ?_)
    have hQ' := hQ st'
    rw [g5] at hQ'
    simp only [c104, clI_eq e999, Option.toList, List.cons_append, List.nil_append, ↓r45_0, ↓r45_1, ↓r45_4, ↓r45_5, ↓r45_6, ↓r45_7, ↓r45_8, ↓r45_11, ↓r45_12, ↓r45_13, ↓r45_15, ↓r45_16, ↓r45_17, ↓r45_19, ↓r45_20, ↓r45_21, ↓r45_22, ↓r45_25, ↓r45_26, ↓r45_27, ↓r45_28, ↓r45_29, ↓r45_32, ↓r45_33, ↓r45_34, ↓r45_37, ↓r45_38, ↓r45_41, ↓r45_44]
    exact hQ'
theorem kChrs : kChr 0 0 = 119 ∧ kChr 0 1 = 115 ∧ kChr 0 2 = 118 ∧ kChr 1 0 = 115 ∧ kChr 1 1 = 119 ∧ kChr 1 2 = 97 ∧ kChr 2 0 = 116 ∧ kChr 2 1 = 112 := by decide
theorem stepR_OK {key : Nat} (hkey : key < 3) {nm : Nat → Int32} {a b c0 what v w : Int32} (h : stepR key what v w) (ha : nm (zix (kChr key 0)) = a) (hb : nm (zix (kChr key 1)) = b) (hc0 : key < 2 → nm (zix (kChr key 2)) = c0) : stepOK nm a b c0 what v w := by
  rcases h with ⟨rfl, h2, rfl⟩ | ⟨rfl, j, hj, rfl, rfl, hj2⟩ | h | h
  · refine Or.inl ⟨by decide, ?_, ?_, Or.inl rfl⟩
    · grind
    · have h3 : ¬ v < 0 := by grind
      simp only [if_true, wVal, if_neg h3]
  · refine Or.inl ⟨by decide, ?_, ?_, Or.inr ?_⟩
    · rcases (show j = 0 ∨ j = 1 ∨ j = 2 by omega) with rfl | rfl | rfl <;> decide
    · rw [if_neg (by decide)]
      rcases (show j = 0 ∨ j = 1 ∨ j = 2 by omega) with rfl | rfl | rfl
      · rw [ha]; rfl
      · rw [hb]; rfl
      · rw [hc0 (by omega)]; rfl
    · rcases (show key = 0 ∨ key = 1 ∨ key = 2 by omega) with rfl | rfl | rfl <;> rcases (show j = 0 ∨ j = 1 ∨ j = 2 by omega) with rfl | rfl | rfl <;> (unfold zok; decide)
  · exact Or.inr (Or.inl h)
  · exact Or.inr (Or.inr h)
theorem zokN (k : Nat) (hk : k < 128) : zok (nI k) 128 := zok_nI hk (by omega)
theorem kN : zok 119 128 = True ∧ zok 115 128 = True ∧ zok 118 128 = True ∧ zok 97 128 = True ∧ zok 116 128 = True ∧ zok 112 128 = True ∧ zok 9 3062 = True ∧ zok 7 3062 = True := by
  unfold zok; decide
theorem kZ : zix 119 = 119 ∧ zix 115 = 115 ∧ zix 118 = 118 ∧ zix 97 = 97 ∧ zix 116 = 116 ∧ zix 112 = 112 ∧ zix 9 = 9 ∧ zix 7 = 7 := by decide
theorem c120 (hn : h 61 0 = nI n) (h10 : n ≤ 10) (hk : k < n) (hT : zTR (h 61) τ) (hQ : ∀ nm p, Q (some (.int (kPays (h 61 (12 + 5 * k + 0)) (pToll (τ 0) (h 61 (12 + 5 * k + 1)) (h 61 9) (h 61 (12 + 5 * k + 3)))))) (zhr (zhr h 75 nm) 76 p)) : zM (d + 3) 120 [.ref 60, .int (nI k)] h Q := by
  rw [m120]
  obtain ⟨n1, hn1, hs1, hkeys⟩ := hT
  obtain ⟨y1, y2, y3, y4, y5, y6, y7, y8⟩ := kN
  obtain ⟨w1, w2, w3, w4, w5, w6, w7, w8⟩ := kZ
  have c179' := fun (Q' : Option Value → zH → Prop) => c179 (d := d) (Q := Q') (x0 := 0) hs1 hn1
  simp only [↓r120_0, ↓r120_1, ↓r120_2, ↓r120_3, ↓r120_6, ↓r120_7, ↓r120_8, ↓r120_9, ↓r120_12, ↓r120_13, ↓r120_14, ↓r120_17, ↓r120_18, ↓r120_21, ↓r120_23, ↓r120_24, ↓r120_25, ↓r120_26, ↓r120_29, ↓r120_30, ↓r120_31, ↓r120_34, ↓r120_36, ↓r120_37, ↓r120_40, ↓r120_42, ↓r120_43, ↓r120_44, ↓r120_45, ↓r120_48, ↓r120_50, ↓r120_51, ↓r120_52, ↓r120_53, ↓r120_56, ↓r120_57, ↓r120_58, ↓r120_59, ↓r120_62, ↓r120_63, ↓r120_66, ↓r120_69, ↓r120_70, ↓r120_71, ↓r120_72, ↓r120_73, ↓r120_76, ↓r120_112, ↓r120_113, ↓r120_114, ↓r120_115, ↓r120_116, ↓r120_117, ↓r120_118, ↓r120_119, ↓r120_120, ↓r120_121, ↓r120_122, ↓r120_123, ↓r120_125, ↓r120_128, ↓r120_129, ↓r120_130, ↓r120_131, ↓r120_133, ↓r120_134, ↓r120_137, ↓r120_138, ↓r120_139, ↓r120_140, ↓r120_141, ↓r120_142, ↓r120_143, ↓r120_144, ↓r120_145, ↓r120_146, ↓r120_147, ↓r120_148, c113_1 (by omega : k < 10), c179', Option.toList, List.cons_append, List.nil_append]
  have h0 := hkeys 0 (by omega)
  rw [nI_0] at h0
  rcases h0 with ⟨t1, t2⟩ | ⟨t, m, w, g1, g2, g3, g4, g5, g6, g7⟩
  · have hQ' := hQ (h 75) (h 76)
    rw [zhr_self, zhr_self, t2] at hQ'
    simp only [if_pos t1, c113_0 (by omega : k < 10), Option.toList, List.cons_append, List.nil_append, ↓r120_0, ↓r120_1, ↓r120_2, ↓r120_3, ↓r120_6, ↓r120_7, ↓r120_8, ↓r120_9, ↓r120_12, ↓r120_13, ↓r120_14, ↓r120_17, ↓r120_18, ↓r120_21, ↓r120_23, ↓r120_24, ↓r120_25, ↓r120_26, ↓r120_29, ↓r120_30, ↓r120_31, ↓r120_34, ↓r120_36, ↓r120_37, ↓r120_40, ↓r120_42, ↓r120_43, ↓r120_44, ↓r120_45, ↓r120_48, ↓r120_50, ↓r120_51, ↓r120_52, ↓r120_53, ↓r120_56, ↓r120_57, ↓r120_58, ↓r120_59, ↓r120_62, ↓r120_63, ↓r120_66, ↓r120_69, ↓r120_70, ↓r120_71, ↓r120_72, ↓r120_73, ↓r120_76, ↓r120_112, ↓r120_113, ↓r120_114, ↓r120_115, ↓r120_116, ↓r120_117, ↓r120_118, ↓r120_119, ↓r120_120, ↓r120_121, ↓r120_122, ↓r120_123, ↓r120_125, ↓r120_128, ↓r120_129, ↓r120_130, ↓r120_131, ↓r120_133, ↓r120_134, ↓r120_137, ↓r120_138, ↓r120_139, ↓r120_140, ↓r120_141, ↓r120_142, ↓r120_143, ↓r120_144, ↓r120_145, ↓r120_146, ↓r120_147, ↓r120_148]
    simp only [pToll] at hQ'
    simp only [kPays, zq_ite Q] at hQ'
    exact hQ'
  · have t0 : ¬ nI t < 0 := nI_pos (by omega)
    simp only [g3, if_neg t0, zs_75, zl_61, y1, y2, y3, y7, true_and, w1, w2, w3, w7, zhr_ap, Nat.reduceEqDiff, if_true, if_false, zhr_zhr, c113_1 (by omega : k < 10), c113_3 (by omega : k < 10), Option.toList, List.cons_append, List.nil_append, ↓r120_0, ↓r120_1, ↓r120_2, ↓r120_3, ↓r120_6, ↓r120_7, ↓r120_8, ↓r120_9, ↓r120_12, ↓r120_13, ↓r120_14, ↓r120_17, ↓r120_18, ↓r120_21, ↓r120_23, ↓r120_24, ↓r120_25, ↓r120_26, ↓r120_29, ↓r120_30, ↓r120_31, ↓r120_34, ↓r120_36, ↓r120_37, ↓r120_40, ↓r120_42, ↓r120_43, ↓r120_44, ↓r120_45, ↓r120_48, ↓r120_50, ↓r120_51, ↓r120_52, ↓r120_53, ↓r120_56, ↓r120_57, ↓r120_58, ↓r120_59, ↓r120_62, ↓r120_63, ↓r120_66, ↓r120_69, ↓r120_70, ↓r120_71, ↓r120_72, ↓r120_73, ↓r120_76, ↓r120_112, ↓r120_113, ↓r120_114, ↓r120_115, ↓r120_116, ↓r120_117, ↓r120_118, ↓r120_119, ↓r120_120, ↓r120_121, ↓r120_122, ↓r120_123, ↓r120_125, ↓r120_128, ↓r120_129, ↓r120_130, ↓r120_131, ↓r120_133, ↓r120_134, ↓r120_137, ↓r120_138, ↓r120_139, ↓r120_140, ↓r120_141, ↓r120_142, ↓r120_143, ↓r120_144, ↓r120_145, ↓r120_146, ↓r120_147, ↓r120_148]
    obtain ⟨k1, k2, k3, k4, k5, k6, k7, k8⟩ := kChrs
    refine c182 (w := w) (a := h 61 (12 + 5 * k + 1)) (b := h 61 9) (c0 := h 61 (12 + 5 * k + 3)) g1 g2 g4 (fun i hi => stepR_OK (by omega) (g5 i hi) (by rw [k1]; rfl) (by rw [k2]; rfl) (fun _ => by rw [k3]; rfl)) g6 (fun st' => ?_)
    have hQ' := hQ (upd (upd (upd (h 75) 119 (h 61 (12 + 5 * k + 1))) 115 (h 61 9)) 118 (h 61 (12 + 5 * k + 3))) st'
    rw [g7] at hQ'
    have e61 : ∀ (nm p : Nat → Int32), zhr (zhr h 75 nm) 76 p 61 = h 61 := fun _ _ => rfl
    have c113z := fun (nm p : Nat → Int32) (Q' : Option Value → zH → Prop) => c113_0 (d := d + 1) (Q := Q') (h := zhr (zhr h 75 nm) 76 p) (by omega : k < 10)
    simp only [c108c, Option.toList, List.cons_append, List.nil_append, ↓r120_0, ↓r120_1, ↓r120_2, ↓r120_3, ↓r120_6, ↓r120_7, ↓r120_8, ↓r120_9, ↓r120_12, ↓r120_13, ↓r120_14, ↓r120_17, ↓r120_18, ↓r120_21, ↓r120_23, ↓r120_24, ↓r120_25, ↓r120_26, ↓r120_29, ↓r120_30, ↓r120_31, ↓r120_34, ↓r120_36, ↓r120_37, ↓r120_40, ↓r120_42, ↓r120_43, ↓r120_44, ↓r120_45, ↓r120_48, ↓r120_50, ↓r120_51, ↓r120_52, ↓r120_53, ↓r120_56, ↓r120_57, ↓r120_58, ↓r120_59, ↓r120_62, ↓r120_63, ↓r120_66, ↓r120_69, ↓r120_70, ↓r120_71, ↓r120_72, ↓r120_73, ↓r120_76, ↓r120_112, ↓r120_113, ↓r120_114, ↓r120_115, ↓r120_116, ↓r120_117, ↓r120_118, ↓r120_119, ↓r120_120, ↓r120_121, ↓r120_122, ↓r120_123, ↓r120_125, ↓r120_128, ↓r120_129, ↓r120_130, ↓r120_131, ↓r120_133, ↓r120_134, ↓r120_137, ↓r120_138, ↓r120_139, ↓r120_140, ↓r120_141, ↓r120_142, ↓r120_143, ↓r120_144, ↓r120_145, ↓r120_146, ↓r120_147, ↓r120_148, c113z, e61]
    simp only [pToll] at hQ'
    simp only [kPays, zq_ite Q] at hQ'
    exact hQ'
theorem c134 (hT : zTR (h 61) τ) (hQ : ∀ nm p, Q (some (.int (pPull (τ 1) (h 61 9) x0 (h 61 7)))) (zhr (zhr h 75 nm) 76 p)) : zM (d + 3) 134 [.ref 60, .int x0] h Q := by
  rw [m134]
  obtain ⟨n1, hn1, hs1, hkeys⟩ := hT
  obtain ⟨y1, y2, y3, y4, y5, y6, y7, y8⟩ := kN
  obtain ⟨w1, w2, w3, w4, w5, w6, w7, w8⟩ := kZ
  have c179' := fun (Q' : Option Value → zH → Prop) => c179 (d := d) (Q := Q') (x0 := 1) hs1 hn1
  simp only [↓r134_0, ↓r134_1, ↓r134_2, ↓r134_5, ↓r134_6, ↓r134_7, ↓r134_10, ↓r134_11, ↓r134_14, ↓r134_16, ↓r134_17, ↓r134_18, ↓r134_20, ↓r134_21, ↓r134_22, ↓r134_24, ↓r134_25, ↓r134_26, ↓r134_27, ↓r134_30, ↓r134_32, ↓r134_33, ↓r134_36, ↓r134_38, ↓r134_39, ↓r134_40, ↓r134_41, ↓r134_44, ↓r134_46, ↓r134_47, ↓r134_48, ↓r134_49, ↓r134_52, ↓r134_54, ↓r134_55, ↓r134_58, ↓r134_60, ↓r134_61, ↓r134_62, ↓r134_63, ↓r134_64, ↓r134_67, ↓r134_68, ↓r134_71, ↓r134_74, c179', Option.toList, List.cons_append, List.nil_append]
  have h0 := hkeys 1 (by omega)
  rw [show nI 1 = (1 : Int32) from rfl] at h0
  rcases h0 with ⟨t1, t2⟩ | ⟨t, m, w, g1, g2, g3, g4, g5, g6, g7⟩
  · have hQ' := hQ (h 75) (h 76)
    rw [zhr_self, zhr_self, t2] at hQ'
    simp only [if_pos t1, zl_61, y7, w7, true_and]
    exact hQ'
  · have t0 : ¬ nI t < 0 := nI_pos (by omega)
    simp only [g3, if_neg t0, zs_75, zl_61, y1, y2, y3, y4, y7, y8, true_and, w1, w2, w3, w4, w7, w8, zhr_ap, Nat.reduceEqDiff, if_true, if_false, zhr_zhr, Option.toList, List.cons_append, List.nil_append, ↓r134_0, ↓r134_1, ↓r134_2, ↓r134_5, ↓r134_6, ↓r134_7, ↓r134_10, ↓r134_11, ↓r134_14, ↓r134_16, ↓r134_17, ↓r134_18, ↓r134_20, ↓r134_21, ↓r134_22, ↓r134_24, ↓r134_25, ↓r134_26, ↓r134_27, ↓r134_30, ↓r134_32, ↓r134_33, ↓r134_36, ↓r134_38, ↓r134_39, ↓r134_40, ↓r134_41, ↓r134_44, ↓r134_46, ↓r134_47, ↓r134_48, ↓r134_49, ↓r134_52, ↓r134_54, ↓r134_55, ↓r134_58, ↓r134_60, ↓r134_61, ↓r134_62, ↓r134_63, ↓r134_64, ↓r134_67, ↓r134_68, ↓r134_71, ↓r134_74]
    obtain ⟨k1, k2, k3, k4, k5, k6, k7, k8⟩ := kChrs
    refine c182 (w := w) (a := h 61 9) (b := x0) (c0 := h 61 7) g1 g2 g4 (fun i hi => stepR_OK (by omega) (g5 i hi) (by rw [k4]; rfl) (by rw [k5]; rfl) (fun _ => by rw [k6]; rfl)) g6 (fun st' => ?_)
    have hQ' := hQ (upd (upd (upd (h 75) 115 (h 61 9)) 119 x0) 97 (h 61 7)) st'
    rw [g7] at hQ'
    simp only [c108, Option.toList, List.cons_append, List.nil_append, ↓r134_0, ↓r134_1, ↓r134_2, ↓r134_5, ↓r134_6, ↓r134_7, ↓r134_10, ↓r134_11, ↓r134_14, ↓r134_16, ↓r134_17, ↓r134_18, ↓r134_20, ↓r134_21, ↓r134_22, ↓r134_24, ↓r134_25, ↓r134_26, ↓r134_27, ↓r134_30, ↓r134_32, ↓r134_33, ↓r134_36, ↓r134_38, ↓r134_39, ↓r134_40, ↓r134_41, ↓r134_44, ↓r134_46, ↓r134_47, ↓r134_48, ↓r134_49, ↓r134_52, ↓r134_54, ↓r134_55, ↓r134_58, ↓r134_60, ↓r134_61, ↓r134_62, ↓r134_63, ↓r134_64, ↓r134_67, ↓r134_68, ↓r134_71, ↓r134_74]
    exact hQ'
end
