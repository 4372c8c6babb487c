/-! the two worlds side by side -/
/-- the class's texts and a row of the reference, n of them -/
def tRel (h : zH) (row : Nat → Int32) (N : Nat) : Prop := ∀ t, t < N → ∃ key m, key < 3 ∧ m ≤ 96 ∧ h 2 t = nI key ∧ row (62 + 200 * t) = nI key ∧ h 3 t = row (62 + 200 * t + 1) ∧ h 4 t = nI m ∧ row (62 + 200 * t + 2) = nI m ∧ (∀ i, i < m → stepR key (row (62 + 200 * t + 4 + 2 * i)) (row (62 + 200 * t + 4 + 2 * i + 1)) (h 5 (96 * t + i))) ∧ wWF (fun i => h 5 (96 * t + i)) m
/-- a State and a row -/
def zSt (h : zH) (c : Nat) (row : Nat → Int32) (n m N : Nat) : Prop := zV h c row ∧ zB row n m ∧ (row 1 = nI N ∧ N ≤ 14) ∧ (∀ key, key < 3 → h (c + 7) key = lastT row (nI key) N) ∧ tRel h row N ∧ h c 14 = -1
/-- what the texts give, as the State has them -/
def zTauOf (h : zH) (c : Nat) : zTau := fun key => if h (c + 7) key < 0 then none else some (vC (fun i => h 5 (96 * zix (h (c + 7) key) + i)) (zix (h 4 (zix (h (c + 7) key)))))
def rShEnc (f g : Nat → Int32) (k : Nat) : Prop := ∀ i, i < 24 → (g (24 * k + i) = -1000000005 ∧ f i = -2147483648) ∨ (¬ g (24 * k + i) = -1000000005 ∧ f i = g (24 * k + i) ∧ -99999 ≤ f i ∧ f i ≤ 99999)
def rShort (f : Nat → Int32) : Prop := ∀ i, i < 24 → ¬ f i = -2147483648
/-- a sheet: object o, places f; the reference's sorts, sizes, numbers -/
def rSheet (o f S Z g : Nat → Int32) (k : Nat) : Prop := o 0 = S k ∧ (S k = -1 ∨ S k = 0 ∨ S k = 1) ∧ (∃ z, z ≤ 24 ∧ Z k = nI z ∧ o 1 = nI z) ∧ rShEnc f g k
def rSheets (h : zH) : Prop := rSheet (h 35) (h 36) (h 64) (h 65) (h 66) 0 ∧ rSheet (h 37) (h 38) (h 64) (h 65) (h 66) 1 ∧ rSheet (h 39) (h 40) (h 64) (h 65) (h 66) 2 ∧ rSheet (h 41) (h 42) (h 64) (h 65) (h 66) 3
def rSlot (o so f T N W Z g : Nat → Int32) (k : Nat) : Prop := o 0 = T k ∧ (T k = 0 ∨ (T k = 1 ∧ kOk (o 1) ∧ o 1 = N k ∧ W k = kWorth (o 1) (o 2)) ∨ (T k = 2 ∧ (∃ z, z ≤ 24 ∧ Z k = nI z ∧ so 1 = nI z) ∧ rShEnc f g k) ∨ (T k = 3 ∧ o 3 = N k))
def rSlots (h : zH) : Prop := rSlot (h 44) (h 45) (h 46) (h 67) (h 68) (h 69) (h 70) (h 71) 0 ∧ rSlot (h 47) (h 48) (h 49) (h 67) (h 68) (h 69) (h 70) (h 71) 1 ∧ rSlot (h 50) (h 51) (h 52) (h 67) (h 68) (h 69) (h 70) (h 71) 2 ∧ rSlot (h 53) (h 54) (h 55) (h 67) (h 68) (h 69) (h 70) (h 71) 3 ∧ rSlot (h 56) (h 57) (h 58) (h 67) (h 68) (h 69) (h 70) (h 71) 4
def rNums (a b : Int32) (f g : Nat → Int32) : Prop := a = b ∧ (∃ w, w ≤ 60 ∧ a = nI w) ∧ ∀ i, i < 60 → f i = g i
def rTape (a b : Int32) (f g : Nat → Int32) : Prop := a = b ∧ ∃ L, L ≤ 96 ∧ a = nI L ∧ ∀ i, i < L → f i = g i ∧ 0 ≤ f i ∧ f i ≤ 255
def rNow (h : zH) (n m N : Nat) : Prop := zSt h 10 (h 61) n m N ∧ m ≤ 9999
def rImg (h : zH) (N : Nat) : Prop := h 0 5 = h 60 3 ∧ (h 0 5 = 0 ∨ (h 0 5 = 1 ∧ ∃ n m N', zSt h 18 (h 62) n m N' ∧ m ≤ 9999 ∧ N' ≤ N))
def zRelN (h : zH) (n m N : Nat) : Prop := rNow h n m N ∧ h 60 12 = -1 ∧ rImg h N ∧ rSheets h ∧ rSlots h ∧ rNums (h 0 9) (h 60 31) (h 59) (h 78) ∧ rTape (h 7 1) (h 60 16) (h 8) (h 74)
def zRel (h : zH) : Prop := ∃ n m N, zRelN h n m N
section
variable {d : Nat} {Q : Option Value → zH → Prop} {h h' : zH} {x0 : Int32} {c b n k m f N t : Nat} {τ : zTau} {s row : Nat → Int32}
theorem lastT_in (row : Nat → Int32) (key : Int32) : ∀ n, n ≤ 14 → lastT row key n = -1 ∨ ∃ t, t < n ∧ lastT row key n = nI t ∧ row (62 + 200 * t) = key
  | 0, _ => Or.inl rfl
  | n + 1, h => by
    have ih := lastT_in row key n (by omega)
    show (if row (62 + 200 * n) = key then nI n else lastT row key n) = -1 ∨ ∃ t, t < n + 1 ∧ (if row (62 + 200 * n) = key then nI n else lastT row key n) = nI t ∧ _
    by_cases q : row (62 + 200 * n) = key
    · rw [if_pos q]
      exact Or.inr ⟨n, by omega, rfl, q⟩
    · rw [if_neg q]
      rcases ih with e | ⟨t, h1, h2, h3⟩
      · exact Or.inl e
      · exact Or.inr ⟨t, by omega, h2, h3⟩
theorem zSt_tau (hS : zSt h c row n m N) : zTC h c (zTauOf h c) ∧ zTR row (zTauOf h c) := by
  obtain ⟨hV, hB, ⟨hN, hN14⟩, hcnt, hT, -⟩ := hS
  constructor
  · intro key hk
    rcases lastT_in row (nI key) N hN14 with e | ⟨t, h1, h2, h3⟩
    · refine Or.inl ⟨?_, ?_⟩
      · rw [hcnt key hk, e]; decide
      · unfold zTauOf; rw [hcnt key hk, e]; exact if_pos (by decide)
    · obtain ⟨key', m', q1, q2, q3, q4, q5, q6, q7, q8, q9⟩ := hT t h1
      refine Or.inr ⟨t, m', by omega, q2, ?_, q6, ?_⟩
      · rw [hcnt key hk, h2]
      · unfold zTauOf
        rw [hcnt key hk, h2, if_neg (nI_pos (by omega)), zix_nI (by omega), q6, zix_nI (by omega)]
  · refine ⟨N, hN14, hN, fun key hk => ?_⟩
    rcases lastT_in row (nI key) N hN14 with e | ⟨t, h1, h2, h3⟩
    · refine Or.inl ⟨?_, ?_⟩
      · rw [e]; decide
      · unfold zTauOf; rw [hcnt key hk, e]; exact if_pos (by decide)
    · obtain ⟨key', m', q1, q2, q3, q4, q5, q6, q7, q8, q9⟩ := hT t h1
      have hkk : key' = key := by
        have := q4.symm.trans h3
        rwa [nI_eq (by omega) (by omega)] at this
      subst hkk
      refine Or.inr ⟨t, m', fun i => h 5 (96 * t + i), by omega, q2, h2, q7, q8, q9, ?_⟩
      unfold zTauOf
      rw [hcnt key' hk, h2, if_neg (nI_pos (by omega)), zix_nI (by omega), q6, zix_nI (by omega)]
theorem tRel_cong {row' : Nat → Int32} (e2 : h' 2 = h 2) (e3 : h' 3 = h 3) (e4 : h' 4 = h 4) (e5 : h' 5 = h 5) (er : ∀ k, 62 ≤ k → row' k = row k) (hT : tRel h row N) : tRel h' row' N := by
  intro t ht
  obtain ⟨key, m, q1, q2, q3, q4, q5, q6, q7, q8, q9⟩ := hT t ht
  refine ⟨key, m, q1, q2, by rw [e2]; exact q3, by rw [er _ (by omega)]; exact q4, by rw [e3, er _ (by omega)]; exact q5, by rw [e4]; exact q6, by rw [er _ (by omega)]; exact q7, fun i hi => ?_, by rw [e5]; exact q9⟩
  rw [e5, er _ (by omega), er _ (by omega)]
  exact q8 i hi
theorem lastT_cong {row' : Nat → Int32} {key : Int32} (er : ∀ k, 62 ≤ k → row' k = row k) : lastT row' key N = lastT row key N := by
  unfold lastT
  exact zfo_cong (fun i a _ => by simp only [er (62 + 200 * i) (by omega)]) _
theorem zSt_set {row' : Nat → Int32} {n' m' : Nat} (hS : zSt h c row n m N) (hV' : zV h' c row') (hB' : zB row' n' m') (e7 : h' (c + 7) = h (c + 7)) (e : ∀ c', 2 ≤ c' → c' ≤ 5 → h' c' = h c') (e14 : h' c 14 = h c 14) (e1 : row' 1 = row 1) (er : ∀ k, 62 ≤ k → row' k = row k) : zSt h' c row' n' m' N := by
  obtain ⟨hV, hB, ⟨hN, hN14⟩, hcnt, hT, h14⟩ := hS
  refine ⟨hV', hB', ⟨by rw [e1]; exact hN, hN14⟩, fun key hk => ?_, tRel_cong (e 2 (by omega) (by omega)) (e 3 (by omega) (by omega)) (e 4 (by omega) (by omega)) (e 5 (by omega) (by omega)) er hT, e14.trans h14⟩
  rw [e7, lastT_cong er]
  exact hcnt key hk
theorem zV_rows {row : Nat → Int32} (hV : zV h c row) (e0 : h' c = h c) (e : ∀ j, j < 8 → h' (c + j) = h (c + j)) : zV h' c row := by
  unfold zV
  rw [e0, e 1 (by omega), e 2 (by omega), e 3 (by omega), e 4 (by omega), e 5 (by omega), e 6 (by omega)]
  exact hV
theorem zSt_keep (hS : zSt h c row n m N) (e0 : ∀ j, j < 8 → h' (c + j) = h (c + j)) (e : ∀ c', 2 ≤ c' → c' ≤ 5 → h' c' = h c') : zSt h' c row n m N :=
  zSt_set hS (zV_rows hS.1 (e0 0 (by omega)) e0) hS.2.1 (e0 7 (by omega)) e (by rw [show h' c = h c from e0 0 (by omega)]) rfl (fun _ _ => rfl)
theorem rImg_keep (hI : rImg h N) (e : ∀ c', (c' = 62 ∨ (18 ≤ c' ∧ c' ≤ 25) ∨ (2 ≤ c' ∧ c' ≤ 5)) → h' c' = h c') (e0 : h' 0 5 = h 0 5) (e6 : h' 60 3 = h 60 3) : rImg h' N := by
  obtain ⟨h1, h2⟩ := hI
  refine ⟨by rw [e0, e6]; exact h1, ?_⟩
  rw [e0]
  rcases h2 with h2 | ⟨h2, n, m, N', h3, h4, h5⟩
  · exact Or.inl h2
  · refine Or.inr ⟨h2, n, m, N', ?_, h4, h5⟩
    rw [e 62 (by omega)]
    exact zSt_keep h3 (fun j hj => e _ (by omega)) (fun c' a b => e _ (by omega))
theorem rSheets_keep (hS : rSheets h) (e : ∀ c', ((35 ≤ c' ∧ c' ≤ 42) ∨ (64 ≤ c' ∧ c' ≤ 66)) → h' c' = h c') : rSheets h' := by
  unfold rSheets
  rw [e 35 (by omega), e 36 (by omega), e 37 (by omega), e 38 (by omega), e 39 (by omega), e 40 (by omega), e 41 (by omega), e 42 (by omega), e 64 (by omega), e 65 (by omega), e 66 (by omega)]
  exact hS
theorem rSlots_keep (hS : rSlots h) (e : ∀ c', ((44 ≤ c' ∧ c' ≤ 58) ∨ (67 ≤ c' ∧ c' ≤ 71)) → h' c' = h c') : rSlots h' := by
  unfold rSlots
  rw [e 44 (by omega), e 45 (by omega), e 46 (by omega), e 47 (by omega), e 48 (by omega), e 49 (by omega), e 50 (by omega), e 51 (by omega), e 52 (by omega), e 53 (by omega), e 54 (by omega), e 55 (by omega), e 56 (by omega), e 57 (by omega), e 58 (by omega), e 67 (by omega), e 68 (by omega), e 69 (by omega), e 70 (by omega), e 71 (by omega)]
  exact hS
/-- x.f, then m.f: one answer, and both worlds side by side again -/
def zPq (r : Int32) (Q2 : Int32 → zH → Prop) (r2 : Option Value) (h2 : zH) : Prop := r2 = some (.int r) ∧ Q2 r h2
def zPo (h : zH) (E ym : Nat) (as : List Value) (Q2 : Int32 → zH → Prop) (r1 : Option Value) (h1 : zH) : Prop := ∃ r, r1 = some (.int r) ∧ h1 84 = h 84 ∧ h1 85 = h 85 ∧ zM E ym (.ref 60 :: as) h1 (zPq r Q2)
def zPair (D E yx ym : Nat) (as : List Value) : Prop := ∀ (h : zH) (Q2 : Int32 → zH → Prop), zRel h → (∀ r h2, zRel h2 → h2 84 = h 84 → h2 85 = h 85 → Q2 r h2) → zM D yx (.ref 0 :: as) h (zPo h E ym as Q2)
theorem zPo_in {E ym : Nat} {as : List Value} {Q2 : Int32 → zH → Prop} {v : Int32} (a : h' 84 = h 84) (b : h' 85 = h 85) (k : zM E ym (.ref 60 :: as) h' (zPq v Q2)) : zPo h E ym as Q2 (some (.int v)) h' := ⟨v, rfl, a, b, k⟩
theorem zPq_in {Q2 : Int32 → zH → Prop} {v v' : Int32} (e : v' = v) (k : Q2 v h) : zPq v Q2 (some (.int v')) h := ⟨by rw [e], k⟩
end
