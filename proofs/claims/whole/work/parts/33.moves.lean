/-! rows of numbers after a step, place by place; counts of banks -/
def cCrossF (ab oth : Int32) (i : Nat) (r : Nat → Int32) : Nat → Int32 := if bitOf ab i = 1 then upd (upd (upd r (12 + 5 * i + 2) oth) (12 + 5 * i + 3) 0) (12 + 5 * i + 4) (r (12 + 5 * i + 4) + 1) else r
def cWaitF (ab time : Int32) (i : Nat) (r : Nat → Int32) : Nat → Int32 := if bitOf ab i = 0 then upd r (12 + 5 * i + 3) (r (12 + 5 * i + 3) + time) else r
theorem bitOf_01 (a : Int32) {i : Nat} (hi : i < 32) : bitOf a i = 0 ∨ bitOf a i = 1 := by
  rw [bitOf_bt a hi]
  split
  · exact Or.inr rfl
  · exact Or.inl rfl
theorem bitOf_z (i : Nat) (hi : i < 32) : bitOf 0 i = 0 := by
  rw [bitOf_bt 0 hi, b_0]
  rfl
theorem sMove_lo (ab time : Int32) (r : Nat → Int32) : ∀ n k, (k < 12 ∨ 12 + 5 * n ≤ k ∨ ∃ i, k = 12 + 5 * i + 0 ∨ k = 12 + 5 * i + 1) → zfo (sMoveF ab time) n r k = r k
  | 0, _, _ => rfl
  | n + 1, k, hk => by
    have hk' : k < 12 ∨ 12 + 5 * n ≤ k ∨ ∃ i, k = 12 + 5 * i + 0 ∨ k = 12 + 5 * i + 1 := by
      rcases hk with h | h | h
      · exact Or.inl h
      · exact Or.inr (Or.inl (by omega))
      · exact Or.inr (Or.inr h)
    have ih := sMove_lo ab time r n k hk'
    have hne : k ≠ 12 + 5 * n + 2 ∧ k ≠ 12 + 5 * n + 3 ∧ k ≠ 12 + 5 * n + 4 := by
      rcases hk with h | h | ⟨i, h | h⟩ <;> omega
    show sMoveF ab time n (zfo (sMoveF ab time) n r) k = r k
    unfold sMoveF at ih ⊢
    split <;> simp only [zup_ap, if_neg hne.1, if_neg hne.2.1, if_neg hne.2.2] <;> exact ih
theorem sMove_at (ab time : Int32) (r : Nat → Int32) : ∀ n i, i < n → zfo (sMoveF ab time) n r (12 + 5 * i + 2) = (if bitOf ab i = 1 then r 6 else r (12 + 5 * i + 2)) ∧ zfo (sMoveF ab time) n r (12 + 5 * i + 3) = (if bitOf ab i = 1 then 0 else r (12 + 5 * i + 3) + time) ∧ zfo (sMoveF ab time) n r (12 + 5 * i + 4) = (if bitOf ab i = 1 then r (12 + 5 * i + 4) + 1 else r (12 + 5 * i + 4))
  | n + 1, i, hi => by
    have e6 := sMove_lo ab time r n 6 (Or.inl (by omega))
    have e2 := sMove_lo ab time r n (12 + 5 * n + 2) (Or.inr (Or.inl (by omega)))
    have e3 := sMove_lo ab time r n (12 + 5 * n + 3) (Or.inr (Or.inl (by omega)))
    have e4 := sMove_lo ab time r n (12 + 5 * n + 4) (Or.inr (Or.inl (by omega)))
    show sMoveF ab time n (zfo (sMoveF ab time) n r) _ = _ ∧ sMoveF ab time n (zfo (sMoveF ab time) n r) _ = _ ∧ sMoveF ab time n (zfo (sMoveF ab time) n r) _ = _
    generalize hZ : zfo (sMoveF ab time) n r = Z at e6 e2 e3 e4
    by_cases hin : i = n
    · subst hin
      unfold sMoveF
      by_cases g : bitOf ab i = 1
      · simp only [if_pos g, zup_ap]
        refine ⟨?_, ?_, ?_⟩
        · rw [if_neg (by omega), if_neg (by omega), if_pos trivial]; exact e6
        · rw [if_neg (by omega), if_pos trivial]
        · rw [if_pos trivial, e4]
      · simp only [if_neg g, zup_ap]
        refine ⟨?_, ?_, ?_⟩
        · rw [if_neg (by omega)]; exact e2
        · rw [if_pos trivial, e3]
        · rw [if_neg (by omega)]; exact e4
    · obtain ⟨h2, h3, h4⟩ := sMove_at ab time r n i (by omega)
      rw [hZ] at h2 h3 h4
      rw [← h2, ← h3, ← h4]
      unfold sMoveF
      have hc : ¬ 12 + 5 * i = 12 + 5 * n := by omega
      split <;> simp only [zup_ap] <;> refine ⟨?_, ?_, ?_⟩ <;> (repeat rw [if_neg (by omega)])
theorem cCross_lo (ab oth : Int32) (r : Nat → Int32) : ∀ n k, (k < 12 ∨ 12 + 5 * n ≤ k ∨ ∃ i, k = 12 + 5 * i + 0 ∨ k = 12 + 5 * i + 1) → zfo (cCrossF ab oth) n r k = r k
  | 0, _, _ => rfl
  | n + 1, k, hk => by
    have hk' : k < 12 ∨ 12 + 5 * n ≤ k ∨ ∃ i, k = 12 + 5 * i + 0 ∨ k = 12 + 5 * i + 1 := by
      rcases hk with h | h | h
      · exact Or.inl h
      · exact Or.inr (Or.inl (by omega))
      · exact Or.inr (Or.inr h)
    have ih := cCross_lo ab oth r n k hk'
    have hne : k ≠ 12 + 5 * n + 2 ∧ k ≠ 12 + 5 * n + 3 ∧ k ≠ 12 + 5 * n + 4 := by
      rcases hk with h | h | ⟨i, h | h⟩ <;> omega
    show cCrossF ab oth n (zfo (cCrossF ab oth) n r) k = r k
    unfold cCrossF at ih ⊢
    split
    · simp only [zup_ap, if_neg hne.1, if_neg hne.2.1, if_neg hne.2.2]; exact ih
    · exact ih
theorem cCross_at (ab oth : Int32) (r : Nat → Int32) : ∀ n i, i < n → zfo (cCrossF ab oth) n r (12 + 5 * i + 2) = (if bitOf ab i = 1 then oth else r (12 + 5 * i + 2)) ∧ zfo (cCrossF ab oth) n r (12 + 5 * i + 3) = (if bitOf ab i = 1 then 0 else r (12 + 5 * i + 3)) ∧ zfo (cCrossF ab oth) n r (12 + 5 * i + 4) = (if bitOf ab i = 1 then r (12 + 5 * i + 4) + 1 else r (12 + 5 * i + 4))
  | n + 1, i, hi => by
    have e2 := cCross_lo ab oth r n (12 + 5 * n + 2) (Or.inr (Or.inl (by omega)))
    have e3 := cCross_lo ab oth r n (12 + 5 * n + 3) (Or.inr (Or.inl (by omega)))
    have e4 := cCross_lo ab oth r n (12 + 5 * n + 4) (Or.inr (Or.inl (by omega)))
    show cCrossF ab oth n (zfo (cCrossF ab oth) n r) _ = _ ∧ cCrossF ab oth n (zfo (cCrossF ab oth) n r) _ = _ ∧ cCrossF ab oth n (zfo (cCrossF ab oth) n r) _ = _
    generalize hZ : zfo (cCrossF ab oth) n r = Z at e2 e3 e4
    by_cases hin : i = n
    · subst hin
      unfold cCrossF
      by_cases g : bitOf ab i = 1
      · simp only [if_pos g, zup_ap]
        refine ⟨?_, ?_, ?_⟩
        · rw [if_neg (by omega), if_neg (by omega), if_pos trivial]
        · rw [if_neg (by omega), if_pos trivial]
        · rw [if_pos trivial, e4]
      · simp only [if_neg g]
        exact ⟨e2, e3, e4⟩
    · obtain ⟨h2, h3, h4⟩ := cCross_at ab oth r n i (by omega)
      rw [hZ] at h2 h3 h4
      rw [← h2, ← h3, ← h4]
      unfold cCrossF
      split
      · simp only [zup_ap]
        refine ⟨?_, ?_, ?_⟩ <;> (repeat rw [if_neg (by omega)])
      · exact ⟨rfl, rfl, rfl⟩
theorem cWait_lo (ab time : Int32) (r : Nat → Int32) : ∀ n k, (k < 12 ∨ 12 + 5 * n ≤ k ∨ ∃ i w, w < 5 ∧ w ≠ 3 ∧ k = 12 + 5 * i + w) → zfo (cWaitF ab time) n r k = r k
  | 0, _, _ => rfl
  | n + 1, k, hk => by
    have hk' : k < 12 ∨ 12 + 5 * n ≤ k ∨ ∃ i w, w < 5 ∧ w ≠ 3 ∧ k = 12 + 5 * i + w := by
      rcases hk with h | h | h
      · exact Or.inl h
      · exact Or.inr (Or.inl (by omega))
      · exact Or.inr (Or.inr h)
    have ih := cWait_lo ab time r n k hk'
    have hne : k ≠ 12 + 5 * n + 3 := by
      rcases hk with h | h | ⟨i, w, h1, h2, h3⟩ <;> omega
    show cWaitF ab time n (zfo (cWaitF ab time) n r) k = r k
    unfold cWaitF at ih ⊢
    split
    · simp only [zup_ap, if_neg hne]; exact ih
    · exact ih
theorem cWait_at (ab time : Int32) (r : Nat → Int32) : ∀ n i, i < n → zfo (cWaitF ab time) n r (12 + 5 * i + 3) = (if bitOf ab i = 0 then r (12 + 5 * i + 3) + time else r (12 + 5 * i + 3))
  | n + 1, i, hi => by
    have e3 := cWait_lo ab time r n (12 + 5 * n + 3) (Or.inr (Or.inl (by omega)))
    show cWaitF ab time n (zfo (cWaitF ab time) n r) _ = _
    generalize hZ : zfo (cWaitF ab time) n r = Z at e3
    by_cases hin : i = n
    · subst hin
      unfold cWaitF
      by_cases g : bitOf ab i = 0
      · simp only [if_pos g, zup_ap, if_true]; rw [e3]
      · simp only [if_neg g]; exact e3
    · have h3 := cWait_at ab time r n i (by omega)
      rw [hZ] at h3
      rw [← h3]
      unfold cWaitF
      split
      · simp only [zup_ap]
        rw [if_neg (by omega)]
      · rfl
/-- the class's two loops are the reference's one -/
theorem cMove_eq (ab time oth : Int32) (r : Nat → Int32) (n : Nat) (hn : n ≤ 10) (k : Nat) : zfo (cWaitF ab time) n (upd (upd (zfo (cCrossF ab oth) n r) 6 oth) 3 (r 3 + time)) k = zfo (sMoveF ab time) n (upd (upd r 6 oth) 3 (r 3 + time)) k := by
  by_cases hlo : k < 12 ∨ 12 + 5 * n ≤ k ∨ ∃ i, k = 12 + 5 * i + 0 ∨ k = 12 + 5 * i + 1
  · rw [sMove_lo _ _ _ _ _ hlo, cWait_lo _ _ _ _ _ (by
      rcases hlo with h | h | ⟨i, h | h⟩
      · exact Or.inl h
      · exact Or.inr (Or.inl h)
      · exact Or.inr (Or.inr ⟨i, 0, by omega, by omega, h⟩)
      · exact Or.inr (Or.inr ⟨i, 1, by omega, by omega, h⟩))]
    simp only [zup_ap]
    split
    · rfl
    · split
      · rfl
      · exact cCross_lo _ _ _ _ _ hlo
  · have q1 : ¬ k < 12 := fun h => hlo (Or.inl h)
    have q2 : ¬ 12 + 5 * n ≤ k := fun h => hlo (Or.inr (Or.inl h))
    have q3 : ¬ k = 12 + 5 * ((k - 12) / 5) + 0 := fun h => hlo (Or.inr (Or.inr ⟨_, Or.inl h⟩))
    have q4 : ¬ k = 12 + 5 * ((k - 12) / 5) + 1 := fun h => hlo (Or.inr (Or.inr ⟨_, Or.inr h⟩))
    have hk : ∃ i, i < n ∧ (k = 12 + 5 * i + 2 ∨ k = 12 + 5 * i + 3 ∨ k = 12 + 5 * i + 4) := ⟨(k - 12) / 5, by omega, by omega⟩
    obtain ⟨i, hi, hk⟩ := hk
    obtain ⟨m2, m3, m4⟩ := sMove_at ab time (upd (upd r 6 oth) 3 (r 3 + time)) n i hi
    obtain ⟨c2, c3, c4⟩ := cCross_at ab oth r n i hi
    have w3 := cWait_at ab time (upd (upd (zfo (cCrossF ab oth) n r) 6 oth) 3 (r 3 + time)) n i hi
    have b01 := bitOf_01 ab (i := i) (by omega)
    have g63 : ¬ (6 : Nat) = 3 := by omega
    have g26 : ¬ 12 + 5 * i + 2 = 6 := by omega
    have g23 : ¬ 12 + 5 * i + 2 = 3 := by omega
    have g36 : ¬ 12 + 5 * i + 3 = 6 := by omega
    have g33 : ¬ 12 + 5 * i + 3 = 3 := by omega
    have g46 : ¬ 12 + 5 * i + 4 = 6 := by omega
    have g43 : ¬ 12 + 5 * i + 4 = 3 := by omega
    have n01 : ¬ (0 : Int32) = 1 := by decide
    have n10 : ¬ (1 : Int32) = 0 := by decide
    rcases hk with rfl | rfl | rfl
    · rw [m2, cWait_lo _ _ _ _ _ (Or.inr (Or.inr ⟨i, 2, by omega, by omega, rfl⟩))]
      simp only [zup_ap, if_neg g26, if_neg g23, if_neg g63, if_true, c2]
    · rw [m3, w3]
      simp only [zup_ap, if_neg g36, if_neg g33, c3]
      rcases b01 with b | b
      · simp only [b, if_true, if_neg n01]
      · simp only [b, if_true, if_neg n10]
    · rw [m4, cWait_lo _ _ _ _ _ (Or.inr (Or.inr ⟨i, 4, by omega, by omega, rfl⟩))]
      simp only [zup_ap, if_neg g46, if_neg g43, c4]
/-- where nobody goes -/
theorem cStay_eq (time : Int32) (r : Nat → Int32) (n : Nat) (hn : n ≤ 10) : zfo (cWaitF 0 time) n r = zfo (sMoveF 0 time) n r := by
  refine zfo_cong (fun i s hi => ?_) r
  unfold cWaitF sMoveF
  rw [if_pos (bitOf_z i (by omega)), if_neg (by rw [bitOf_z i (by omega)]; decide)]
/-- counts -/
def cN (s : Nat → Int32) (b : Int32) (n : Nat) : Nat := zfo (fun i a => if s (12 + 5 * i + 2) = b then a + 1 else a) n 0
theorem cN_le (s : Nat → Int32) (b : Int32) : ∀ n, cN s b n ≤ n
  | 0 => Nat.le_refl _
  | n + 1 => by
    have := cN_le s b n
    show (if s (12 + 5 * n + 2) = b then cN s b n + 1 else cN s b n) ≤ n + 1
    split <;> omega
theorem sCnt_cN (s : Nat → Int32) (b : Int32) : ∀ n, sCnt s b n = nI (cN s b n)
  | 0 => rfl
  | n + 1 => by
    have ih := sCnt_cN s b n
    show (if s (12 + 5 * n + 2) = b then sCnt s b n + 1 else sCnt s b n) = nI (if s (12 + 5 * n + 2) = b then cN s b n + 1 else cN s b n)
    rw [ih]
    split
    · exact nI_1 _
    · rfl
theorem cN_two (s : Nat → Int32) {b : Int32} (hb : b = 0 ∨ b = 1) : ∀ n, (∀ i, i < n → s (12 + 5 * i + 2) = 0 ∨ s (12 + 5 * i + 2) = 1) → cN s b n + cN s (1 - b) n = n
  | 0, _ => rfl
  | n + 1, h => by
    have ih := cN_two s hb n (fun i hi => h i (by omega))
    show (if s (12 + 5 * n + 2) = b then cN s b n + 1 else cN s b n) + (if s (12 + 5 * n + 2) = 1 - b then cN s (1 - b) n + 1 else cN s (1 - b) n) = n + 1
    rcases hb with rfl | rfl <;> rcases h n (by omega) with e | e <;> rw [e] <;> simp at ih ⊢ <;> omega
