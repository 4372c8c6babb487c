/-! whom the boat takes -/
def sUrg (s : Nat → Int32) (i : Nat) : Int32 := kUrges (s (12 + 5 * i + 0)) (s (12 + 5 * i + 3))
def sMay (s : Nat → Int32) (u asked : Int32) (i : Nat) : Bool := decide (bitOf asked i = 0) && decide (s (12 + 5 * i + 2) = s 6) && !decide (nI i = u)
def sNextF (s : Nat → Int32) (u asked : Int32) (i : Nat) (b : Int32) : Int32 := if sMay s u asked i = true then (if b < 0 then nI i else if sUrg s i ≤ sUrg s (zix b) then b else nI i) else b
def sNext (s : Nat → Int32) (u asked : Int32) (n : Nat) : Int32 := zfo (sNextF s u asked) n (-1)
theorem sNext_in (s : Nat → Int32) (u asked : Int32) : ∀ n, (sNext s u asked n = -1 ∧ ∀ i, i < n → sMay s u asked i = false) ∨ ∃ j, j < n ∧ sNext s u asked n = nI j ∧ sMay s u asked j = true
  | 0 => Or.inl ⟨rfl, fun i hi => absurd hi (Nat.not_lt_zero i)⟩
  | n + 1 => by
    have ih := sNext_in s u asked n
    show (sNextF s u asked n (sNext s u asked n) = -1 ∧ _) ∨ ∃ j, j < n + 1 ∧ sNextF s u asked n (sNext s u asked n) = nI j ∧ _
    unfold sNextF
    by_cases hm : sMay s u asked n = true
    · rw [if_pos hm]
      by_cases hb : sNext s u asked n < 0
      · rw [if_pos hb]
        exact Or.inr ⟨n, by omega, rfl, hm⟩
      · rw [if_neg hb]
        split
        · rcases ih with ⟨e, -⟩ | ⟨j, hj, e, h2⟩
          · rw [e] at hb; exact absurd (by decide) hb
          · exact Or.inr ⟨j, by omega, e, h2⟩
        · exact Or.inr ⟨n, by omega, rfl, hm⟩
    · rw [if_neg hm]
      rcases ih with ⟨e, h2⟩ | ⟨j, hj, e, h2⟩
      · refine Or.inl ⟨e, fun i hi => ?_⟩
        by_cases hin : i = n
        · subst hin; exact Bool.eq_false_iff.mpr hm
        · exact h2 i (by omega)
      · exact Or.inr ⟨j, by omega, e, h2⟩
/-- fuel f -/
def sLoads (P : Int32 → Int32) (s : Nat → Int32) (u : Int32) (n : Nat) : Nat → Int32 → Int32 → Int32 → Int32 → Int32
  | 0, _, aboard, _, _ => aboard
  | f + 1, asked, aboard, room, weight =>
    if sNext s u asked n < 0 then aboard
    else if kTakes (s (12 + 5 * zix (sNext s u asked n) + 0)) ≤ room then
      (if P (weight + s (12 + 5 * zix (sNext s u asked n) + 1)) ≤ s 10 then sLoads P s u n f (asked ||| 1 <<< (sNext s u asked n &&& 31)) (aboard ||| 1 <<< (sNext s u asked n &&& 31)) (room - kTakes (s (12 + 5 * zix (sNext s u asked n) + 0))) (weight + s (12 + 5 * zix (sNext s u asked n) + 1))
        else sLoads P s u n f (asked ||| 1 <<< (sNext s u asked n &&& 31)) aboard room weight)
    else sLoads P s u n f (asked ||| 1 <<< (sNext s u asked n &&& 31)) aboard room weight
/-- how many are not asked yet -/
def sMu (asked : Int32) (n : Nat) : Nat := zfo (fun i a => if bt asked i = true then a else a + 1) n 0
theorem sMu_le (asked : Int32) : ∀ n, sMu asked n ≤ n
  | 0 => Nat.le_refl _
  | n + 1 => by
    have := sMu_le asked n
    show (if bt asked n = true then sMu asked n else sMu asked n + 1) ≤ n + 1
    split <;> omega
theorem sMu_set (asked : Int32) {j : Nat} (hb : bt asked j = false) (hj32 : j < 32) : ∀ n, n ≤ 32 → sMu (asked ||| 1 <<< (nI j &&& 31)) n + (if j < n then 1 else 0) = sMu asked n
  | 0, _ => rfl
  | n + 1, hn => by
    have ih := sMu_set asked hb hj32 n (by omega)
    show (if bt (asked ||| 1 <<< (nI j &&& 31)) n = true then sMu (asked ||| 1 <<< (nI j &&& 31)) n else sMu (asked ||| 1 <<< (nI j &&& 31)) n + 1) + _ = (if bt asked n = true then sMu asked n else sMu asked n + 1)
    rw [bt_set asked (by omega) hj32]
    by_cases h : n = j
    · subst h
      rw [hb]
      simp only [Nat.lt_irrefl, if_false] at ih
      simp
      omega
    · have e : (bt asked n || decide (n = j)) = bt asked n := by simp [h]
      rw [e]
      by_cases hjn : j < n
      · rw [if_pos hjn] at ih
        rw [if_pos (by omega : j < n + 1)]
        split <;> omega
      · rw [if_neg hjn] at ih
        rw [if_neg (by omega : ¬ j < n + 1)]
        split <;> omega
/-- the same but for the reference's scratch rows, the class's scratch row -/
def sm (h h' : zH) : Prop := ∀ c, c ≠ 75 → c ≠ 76 → h' c = h c
def sc (h h' : zH) : Prop := ∀ c, c ≠ 6 → h' c = h c
theorem sm_rf (h : zH) : sm h h := fun _ _ _ => rfl
theorem sc_rf (h : zH) : sc h h := fun _ _ => rfl
theorem sm_tr {h h1 h2 : zH} (a : sm h h1) (b : sm h1 h2) : sm h h2 := fun c x y => (b c x y).trans (a c x y)
theorem sc_tr {h h1 h2 : zH} (a : sc h h1) (b : sc h1 h2) : sc h h2 := fun c x => (b c x).trans (a c x)
section
variable {d : Nat} {Q : Option Value → zH → Prop} {h : zH} {x x0 x1 x2 x3 x4 : Int32} {c n k : Nat} {τ : zTau}
theorem d120 (hn : h 61 0 = nI n) (h10 : n ≤ 10) (hk : k < n) (hT : zTR (h 61) τ) (hQ : ∀ h', sm h h' → Q (some (.int (kPays (h 61 (12 + 5 * k + 0)) (pToll (τ 0) (h 61 (12 + 5 * k + 1)) (h 61 9) (h 61 (12 + 5 * k + 3)))))) h') : zM (d + 3) 120 [.ref 60, .int (nI k)] h Q :=
  c120 hn h10 hk hT (fun nm p => hQ _ (fun c q1 q2 => by rw [zhr_ne _ _ q2, zhr_ne _ _ q1]))
theorem d134 (hT : zTR (h 61) τ) (hQ : ∀ h', sm h h' → Q (some (.int (pPull (τ 1) (h 61 9) x0 (h 61 7)))) h') : zM (d + 3) 134 [.ref 60, .int x0] h Q :=
  c134 hT (fun nm p => hQ _ (fun c q1 q2 => by rw [zhr_ne _ _ q2, zhr_ne _ _ q1]))
theorem d43 (hc : zst c) (hn : h c 1 = nI n) (h10 : n ≤ 10) (hk : k < n) (hT : zTC h c τ) (hw : 0 ≤ h (c + 2) k ∧ h (c + 2) k ≤ 999) (hQ : ∀ h', sc h h' → Q (some (.int (kPays (h (c + 1) k) (pToll (τ 0) (h (c + 2) k) (h (c + 6) 3) (h (c + 4) k))))) h') : zM (d + 3) 43 [.ref c, .int (nI k)] h Q :=
  c43 hc hn h10 hk hT hw (fun st => hQ _ (fun c q => by rw [zhr_ne _ _ q]))
theorem d45 (hc : zst c) (hT : zTC h c τ) (hQ : ∀ h', sc h h' → Q (some (.int (pPull (τ 1) x0 x1 (h (c + 6) 1)))) h') : zM (d + 3) 45 [.ref c, .int x0, .int x1] h Q :=
  c45 hc hT (fun st => hQ _ (fun c q => by rw [zhr_ne _ _ q]))
theorem zok6 : zok 6 3062 = True ∧ zok 8 3062 = True ∧ zok 10 3062 = True ∧ zok 11 3062 = True ∧ zok 2 3062 = True ∧ zok 3 3062 = True ∧ zok 4 3062 = True := by unfold zok; decide
theorem zix6 : zix 6 = 6 ∧ zix 8 = 8 ∧ zix 10 = 10 ∧ zix 11 = 11 ∧ zix 2 = 2 ∧ zix 3 = 3 ∧ zix 4 = 4 := by decide
theorem c122k (hk : k < 10) : zM (d + 2) 122 [.ref 60, .int (nI k)] h Q = Q (some (.int (sUrg (h 61) k))) h := by
  rw [c122]
  have e3 : 12 + 5 * nI k + 3 = nI (12 + 5 * k + 3) := kix k 3
  have e0 : 12 + 5 * nI k + 0 = nI (12 + 5 * k + 0) := kix k 0
  simp only [e3, e0, zok_nI (by omega : 12 + 5 * k + 3 < 3062) (by omega), zok_nI (by omega : 12 + 5 * k + 0 < 3062) (by omega), zix_nI (by omega : 12 + 5 * k + 3 < 2 ^ 31), zix_nI (by omega : 12 + 5 * k + 0 < 2 ^ 31), true_and, sUrg]
theorem c121k (hk : k < 10) : zM (d + 2) 121 [.ref 60, .int (nI k)] h Q = Q (some (.int (kTakes (h 61 (12 + 5 * k + 0))))) h := by
  rw [c121]
  have e0 : 12 + 5 * nI k + 0 = nI (12 + 5 * k + 0) := kix k 0
  simp only [e0, zok_nI (by omega : 12 + 5 * k + 0 < 3062) (by omega), zix_nI (by omega : 12 + 5 * k + 0 < 2 ^ 31), true_and]
theorem c136 (hn : h 61 0 = nI n) (h10 : n ≤ 10) : zM (d + 3) 136 [.ref 60, .int x0] h Q = Q (some (.int (sNext (h 61) (h 60 12) x0 n))) h := by
  rw [m136]
  obtain ⟨y1, y2, y3, y4, y5, y6, y7⟩ := zok6
  obtain ⟨w1, w2, w3, w4, w5, w6, w7⟩ := zix6
  simp only [↓r136_0, ↓r136_1, ↓r136_2, ↓r136_3, ↓r136_5, ↓r136_6, ↓r136_9, ↓r136_10, ↓r136_11, ↓r136_14, ↓r136_15, ↓r136_16, ↓r136_17, ↓r136_18, ↓r136_19, ↓r136_22, ↓r136_23, ↓r136_24, ↓r136_25, ↓r136_28, ↓r136_29, ↓r136_32, ↓r136_34, ↓r136_35, ↓r136_38, ↓r136_39, ↓r136_40, ↓r136_43, ↓r136_46, ↓r136_47, ↓r136_50, ↓r136_51, ↓r136_53, ↓r136_55, ↓r136_58, ↓r136_59, ↓r136_62, ↓r136_63, ↓r136_64, ↓r136_67, ↓r136_68, ↓r136_69, ↓r136_72, ↓r136_75, ↓r136_76, ↓r136_79, ↓r136_80, ↓r136_81, ↓r136_84, ↓r136_87, ↓r136_88]
  have hs : ∀ (i : Nat) (s : Int32 × Option Value), i < n → (s.1 < 0 ∨ ∃ j, j < i ∧ s.1 = nI j) → (zR (d + 2) 136 Q 4 [some (.ref 60), some (.int x0), some (.int s.1), some (.int (nI i)), s.2] [] h = zR (d + 2) 136 Q 4 [some (.ref 60), some (.int x0), some (.int (sNextF (h 61) (h 60 12) x0 i s.1)), some (.int (nI (i + 1))), some (.int (if sMay (h 61) (h 60 12) x0 i = true then 1 else 0))] [] h) ∧ ((sNextF (h 61) (h 60 12) x0 i s.1) < 0 ∨ ∃ j, j < i + 1 ∧ (sNextF (h 61) (h 60 12) x0 i s.1) = nI j) := by
    intro i s hi hI
    obtain ⟨b, o4⟩ := s
    simp only at hI
    constructor
    · rw [r136_4]
      simp only [↓r136_0, ↓r136_1, ↓r136_2, ↓r136_3, ↓r136_5, ↓r136_6, ↓r136_9, ↓r136_10, ↓r136_11, ↓r136_14, ↓r136_15, ↓r136_16, ↓r136_17, ↓r136_18, ↓r136_19, ↓r136_22, ↓r136_23, ↓r136_24, ↓r136_25, ↓r136_28, ↓r136_29, ↓r136_32, ↓r136_34, ↓r136_35, ↓r136_38, ↓r136_39, ↓r136_40, ↓r136_43, ↓r136_46, ↓r136_47, ↓r136_50, ↓r136_51, ↓r136_53, ↓r136_55, ↓r136_58, ↓r136_59, ↓r136_62, ↓r136_63, ↓r136_64, ↓r136_67, ↓r136_68, ↓r136_69, ↓r136_72, ↓r136_75, ↓r136_76, ↓r136_79, ↓r136_80, ↓r136_81, ↓r136_84, ↓r136_87, ↓r136_88, zl_61, zok0, zix0, y1, w1, true_and, hn, nI_lt hi (by omega : n < 2 ^ 31), if_true, c113_2 (by omega : i < 10), Option.toList, List.cons_append, List.nil_append, nI_1, sNextF, sMay, bitOf, Bool.and_eq_true, decide_eq_true_eq, Bool.not_eq_true', decide_eq_false_iff_not]
      by_cases g1 : x0 >>> (nI i &&& 31) &&& 1 = 0
      · by_cases g2 : h 61 (12 + 5 * i + 2) = h 61 6
        · by_cases g3 : nI i = h 60 12
          · simp [g1, g2, g3]
          · rcases hI with hb | ⟨j, hj, rfl⟩
            · simp [g1, g2, g3, hb]
            · have hb := nI_pos (n := j) (by omega)
              simp only [g1, g2, g3, hb, if_true, if_false, c122k (by omega : i < 10), c122k (by omega : j < 10), zix_nI (by omega : j < 2 ^ 31), not_false_eq_true, and_self, Option.toList, List.cons_append, List.nil_append, ↓r136_0, ↓r136_1, ↓r136_2, ↓r136_3, ↓r136_5, ↓r136_6, ↓r136_9, ↓r136_10, ↓r136_11, ↓r136_14, ↓r136_15, ↓r136_16, ↓r136_17, ↓r136_18, ↓r136_19, ↓r136_22, ↓r136_23, ↓r136_24, ↓r136_25, ↓r136_28, ↓r136_29, ↓r136_32, ↓r136_34, ↓r136_35, ↓r136_38, ↓r136_39, ↓r136_40, ↓r136_43, ↓r136_46, ↓r136_47, ↓r136_50, ↓r136_51, ↓r136_53, ↓r136_55, ↓r136_58, ↓r136_59, ↓r136_62, ↓r136_63, ↓r136_64, ↓r136_67, ↓r136_68, ↓r136_69, ↓r136_72, ↓r136_75, ↓r136_76, ↓r136_79, ↓r136_80, ↓r136_81, ↓r136_84, ↓r136_87, ↓r136_88, nI_1]
              rw [if_neg (by decide)]
              split <;> rfl
        · simp [g1, g2]
      · simp [g1]
    · unfold sNextF
      split
      · split
        · exact Or.inr ⟨i, by omega, rfl⟩
        · split
          · rcases hI with hb | ⟨j, hj, e⟩
            · exact Or.inl hb
            · exact Or.inr ⟨j, by omega, e⟩
          · exact Or.inr ⟨i, by omega, rfl⟩
      · rcases hI with hb | ⟨j, hj, e⟩
        · exact Or.inl hb
        · exact Or.inr ⟨j, by omega, e⟩
  have := zloopI (fun i (s : Int32 × Option Value) => zR (d + 2) 136 Q 4 [some (.ref 60), some (.int x0), some (.int s.1), some (.int (nI i)), s.2] [] h) (fun i s => s.1 < 0 ∨ ∃ j, j < i ∧ s.1 = nI j) (fun i s => (sNextF (h 61) (h 60 12) x0 i s.1, some (.int (if sMay (h 61) (h 60 12) x0 i = true then 1 else 0)))) n hs (-1, none) (Or.inl (by decide))
  obtain ⟨hW, -⟩ := this
  simp only [nI_0] at hW
  rw [hW]
  have hfst : ∀ j, (zfo (fun i (s : Int32 × Option Value) => (sNextF (h 61) (h 60 12) x0 i s.1, some (Value.int (if sMay (h 61) (h 60 12) x0 i = true then 1 else 0)))) j (-1, none)).1 = zfo (sNextF (h 61) (h 60 12) x0) j (-1) := by
    intro j
    induction j with
    | zero => rfl
    | succ j ih => simp only [zfo, ih]
  rw [hfst, r136_4]
  simp only [↓r136_0, ↓r136_1, ↓r136_2, ↓r136_3, ↓r136_5, ↓r136_6, ↓r136_9, ↓r136_10, ↓r136_11, ↓r136_14, ↓r136_15, ↓r136_16, ↓r136_17, ↓r136_18, ↓r136_19, ↓r136_22, ↓r136_23, ↓r136_24, ↓r136_25, ↓r136_28, ↓r136_29, ↓r136_32, ↓r136_34, ↓r136_35, ↓r136_38, ↓r136_39, ↓r136_40, ↓r136_43, ↓r136_46, ↓r136_47, ↓r136_50, ↓r136_51, ↓r136_53, ↓r136_55, ↓r136_58, ↓r136_59, ↓r136_62, ↓r136_63, ↓r136_64, ↓r136_67, ↓r136_68, ↓r136_69, ↓r136_72, ↓r136_75, ↓r136_76, ↓r136_79, ↓r136_80, ↓r136_81, ↓r136_84, ↓r136_87, ↓r136_88, zl_61, zok0, zix0, true_and, hn, nI_nlt (Nat.le_refl n) (by omega), if_false, sNext]
end
