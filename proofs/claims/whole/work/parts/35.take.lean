/-! takeStep() -/
section
variable {d : Nat} {Q : Option Value → zH → Prop} {h h' : zH} {x x0 x1 x2 x3 x4 v : Int32} {c n k m i l w j : Nat} {τ : zTau} {s r : Nat → Int32}
theorem zup_lo (hj : j < 12) : upd r j v (12 + 5 * l + w) = r (12 + 5 * l + w) := by rw [zup_ap, if_neg (by omega)]
theorem zup_w : upd r (12 + 5 * i + w) v (12 + 5 * l + w) = if l = i then v else r (12 + 5 * l + w) := by
  rw [zup_ap]
  by_cases q : l = i
  · rw [if_pos q, if_pos (by omega)]
  · rw [if_neg q, if_neg (by omega)]
theorem zup_x {w' : Nat} (h1 : w < 5) (h2 : w' < 5) (hw : w ≠ w') : upd r (12 + 5 * i + w) v (12 + 5 * l + w') = r (12 + 5 * l + w') := by rw [zup_ap, if_neg (by omega)]
theorem zup_k (hk : k < 12) : upd r (12 + 5 * i + w) v k = r k := by rw [zup_ap, if_neg (by omega)]
theorem zcj (c : Nat) {a b : Nat} (hab : a ≠ b) : ¬ c + a = c + b := by omega
theorem zcj0 (c : Nat) {a : Nat} (ha : a ≠ 0) : ¬ c + a = c ∧ ¬ c = c + a := by omega
/-- a field of the State written -/
theorem zV_fld {a b : Nat} (hab : (a = 1 ∧ b = 0) ∨ (a = 12 ∧ b = 1) ∨ (a = 10 ∧ b = 2) ∨ (a = 8 ∧ b = 3) ∨ (a = 9 ∧ b = 4) ∨ (a = 11 ∧ b = 5)) (hV : zV h c r) : zV (zhr h c (upd (h c) a v)) c (upd r b v) := by
  obtain ⟨⟨v0, v1, v2, v3, v4, v5⟩, ⟨u0, u1, u2, u3, u4, u5⟩, hl⟩ := hV
  have e : ∀ j, j ≠ 0 → zhr h c (upd (h c) a v) (c + j) = h (c + j) := fun j hj => zhr_ne _ _ (by omega)
  have e0 : zhr h c (upd (h c) a v) c = upd (h c) a v := zhr_same _ _ _
  have b12 : b < 12 := by omega
  unfold zV
  simp only [e _ (by omega : 1 ≠ 0), e _ (by omega : 2 ≠ 0), e _ (by omega : 3 ≠ 0), e _ (by omega : 4 ≠ 0), e _ (by omega : 5 ≠ 0), e _ (by omega : 6 ≠ 0), e0, zup_lo b12]
  refine ⟨?_, ?_, hl⟩
  · rcases hab with ⟨rfl, rfl⟩ | ⟨rfl, rfl⟩ | ⟨rfl, rfl⟩ | ⟨rfl, rfl⟩ | ⟨rfl, rfl⟩ | ⟨rfl, rfl⟩ <;> simp [zup_ap, v0, v1, v2, v3, v4, v5]
  · rcases hab with ⟨rfl, rfl⟩ | ⟨rfl, rfl⟩ | ⟨rfl, rfl⟩ | ⟨rfl, rfl⟩ | ⟨rfl, rfl⟩ | ⟨rfl, rfl⟩ <;> simp [zup_ap, u0, u1, u2, u3, u4, u5]
theorem zV_rule (hj : j < 6) (hV : zV h c r) : zV (zhr h (c + 6) (upd (h (c + 6)) j v)) c (upd r (6 + j) v) := by
  obtain ⟨⟨v0, v1, v2, v3, v4, v5⟩, ⟨u0, u1, u2, u3, u4, u5⟩, hl⟩ := hV
  have e : ∀ i, i ≠ 6 → zhr h (c + 6) (upd (h (c + 6)) j v) (c + i) = h (c + i) := fun j hj => zhr_ne _ _ (by omega)
  have e1 : zhr h (c + 6) (upd (h (c + 6)) j v) c = h c := zhr_ne _ _ (by omega)
  have e0 : zhr h (c + 6) (upd (h (c + 6)) j v) (c + 6) = upd (h (c + 6)) j v := zhr_same _ _ _
  have b12 : 6 + j < 12 := by omega
  unfold zV
  simp only [e _ (by omega : 1 ≠ 6), e _ (by omega : 2 ≠ 6), e _ (by omega : 3 ≠ 6), e _ (by omega : 4 ≠ 6), e _ (by omega : 5 ≠ 6), e0, e1, zup_lo b12]
  refine ⟨?_, ?_, hl⟩
  · simp only [zup_ap]
    rw [if_neg (by omega), if_neg (by omega), if_neg (by omega), if_neg (by omega), if_neg (by omega), if_neg (by omega)]
    exact ⟨v0, v1, v2, v3, v4, v5⟩
  · rcases (show j = 0 ∨ j = 1 ∨ j = 2 ∨ j = 3 ∨ j = 4 ∨ j = 5 by omega) with rfl | rfl | rfl | rfl | rfl | rfl <;> simp [zup_ap, u0, u1, u2, u3, u4, u5]
theorem zV_load (hw : w < 5) (hi : i < 10) (hV : zV h c r) : zV (zhr h (c + 1 + w) (upd (h (c + 1 + w)) i v)) c (upd r (12 + 5 * i + w) v) := by
  obtain ⟨⟨v0, v1, v2, v3, v4, v5⟩, ⟨u0, u1, u2, u3, u4, u5⟩, hl⟩ := hV
  have e : ∀ i', i' ≠ 1 + w → zhr h (c + 1 + w) (upd (h (c + 1 + w)) i v) (c + i') = h (c + i') := fun j hj => zhr_ne _ _ (by omega)
  have e1 : zhr h (c + 1 + w) (upd (h (c + 1 + w)) i v) c = h c := zhr_ne _ _ (by omega)
  unfold zV
  simp only [e 6 (by omega), e1, zup_k (by omega : 0 < 12), zup_k (by omega : 1 < 12), zup_k (by omega : 2 < 12), zup_k (by omega : 3 < 12), zup_k (by omega : 4 < 12), zup_k (by omega : 5 < 12), zup_k (by omega : 6 < 12), zup_k (by omega : 7 < 12), zup_k (by omega : 8 < 12), zup_k (by omega : 9 < 12), zup_k (by omega : 10 < 12), zup_k (by omega : 11 < 12)]
  refine ⟨⟨v0, v1, v2, v3, v4, v5⟩, ⟨u0, u1, u2, u3, u4, u5⟩, fun l hl' => ?_⟩
  obtain ⟨l0, l1, l2, l3, l4⟩ := hl l hl'
  have e0 : zhr h (c + 1 + w) (upd (h (c + 1 + w)) i v) (c + 1 + w) = upd (h (c + 1 + w)) i v := zhr_same _ _ _
  rcases (show w = 0 ∨ w = 1 ∨ w = 2 ∨ w = 3 ∨ w = 4 by omega) with rfl | rfl | rfl | rfl | rfl
  · rw [e 2 (by omega), e 3 (by omega), e 4 (by omega), e 5 (by omega), zup_w, zup_x (by omega) (by omega) (by omega), zup_x (by omega) (by omega) (by omega), zup_x (by omega) (by omega) (by omega), zup_x (by omega) (by omega) (by omega)]
    refine ⟨?_, l1, l2, l3, l4⟩
    rw [show c + 1 = c + 1 + 0 from rfl, e0, zup_ap, ← l0]
  · rw [e 1 (by omega), e 3 (by omega), e 4 (by omega), e 5 (by omega), zup_w, zup_x (by omega) (by omega) (by omega), zup_x (by omega) (by omega) (by omega), zup_x (by omega) (by omega) (by omega), zup_x (by omega) (by omega) (by omega)]
    refine ⟨l0, ?_, l2, l3, l4⟩
    rw [show c + 2 = c + 1 + 1 from rfl, e0, zup_ap, ← l1]
  · rw [e 1 (by omega), e 2 (by omega), e 4 (by omega), e 5 (by omega), zup_w, zup_x (by omega) (by omega) (by omega), zup_x (by omega) (by omega) (by omega), zup_x (by omega) (by omega) (by omega), zup_x (by omega) (by omega) (by omega)]
    refine ⟨l0, l1, ?_, l3, l4⟩
    rw [show c + 3 = c + 1 + 2 from rfl, e0, zup_ap, ← l2]
  · rw [e 1 (by omega), e 2 (by omega), e 3 (by omega), e 5 (by omega), zup_w, zup_x (by omega) (by omega) (by omega), zup_x (by omega) (by omega) (by omega), zup_x (by omega) (by omega) (by omega), zup_x (by omega) (by omega) (by omega)]
    refine ⟨l0, l1, l2, ?_, l4⟩
    rw [show c + 4 = c + 1 + 3 from rfl, e0, zup_ap, ← l3]
  · rw [e 1 (by omega), e 2 (by omega), e 3 (by omega), e 4 (by omega), zup_w, zup_x (by omega) (by omega) (by omega), zup_x (by omega) (by omega) (by omega), zup_x (by omega) (by omega) (by omega), zup_x (by omega) (by omega) (by omega)]
    refine ⟨l0, l1, l2, l3, ?_⟩
    rw [show c + 5 = c + 1 + 4 from rfl, e0, zup_ap, ← l4]
/-- what a step may change -/
def sq (c : Nat) (h h' : zH) : Prop := (∀ c', c' ≠ c → c' ≠ c + 3 → c' ≠ c + 4 → c' ≠ c + 5 → c' ≠ c + 6 → c' ≠ 6 → h' c' = h c') ∧ h' c 14 = h c 14
theorem sq_rf : sq c h h := ⟨fun _ _ _ _ _ _ _ => rfl, rfl⟩
theorem sq_tr {h2 : zH} (a : sq c h h') (b : sq c h' h2) : sq c h h2 := ⟨fun c' q1 q2 q3 q4 q5 q6 => (b.1 c' q1 q2 q3 q4 q5 q6).trans (a.1 c' q1 q2 q3 q4 q5 q6), b.2.trans a.2⟩
theorem sq_sc (hc : zst c) (a : sc h h') : sq c h h' := ⟨fun c' _ _ _ _ _ q6 => a c' q6, by rw [(sc_at hc a).1]⟩
theorem sq_fld (ha : j ≠ 14) : sq c h (zhr h c (upd (h c) j v)) := ⟨fun c' q1 _ _ _ _ _ => zhr_ne _ _ q1, by rw [zhr_same, zup_ap, if_neg (Ne.symm ha)]⟩
theorem sq_row (hj : j = 3 ∨ j = 4 ∨ j = 5 ∨ j = 6) {row : Nat → Int32} : sq c h (zhr h (c + j) row) := ⟨fun c' q1 q2 q3 q4 q5 q6 => zhr_ne _ _ (by rcases hj with rfl | rfl | rfl | rfl <;> assumption), by rw [zhr_ne _ _ (by omega)]⟩
theorem zTC_sq (hc : zst c) (e : sq c h h') (hT : zTC h c τ) : zTC h' c τ := by
  have h1 : h' (c + 7) = h (c + 7) := e.1 _ (by omega) (by omega) (by omega) (by omega) (by omega) (by rcases hc with rfl | rfl | rfl <;> omega)
  have h2 : h' 4 = h 4 := e.1 _ (by rcases hc with rfl | rfl | rfl <;> omega) (by rcases hc with rfl | rfl | rfl <;> omega) (by rcases hc with rfl | rfl | rfl <;> omega) (by rcases hc with rfl | rfl | rfl <;> omega) (by rcases hc with rfl | rfl | rfl <;> omega) (by rcases hc with rfl | rfl | rfl <;> omega)
  have h3 : h' 5 = h 5 := e.1 _ (by rcases hc with rfl | rfl | rfl <;> omega) (by rcases hc with rfl | rfl | rfl <;> omega) (by rcases hc with rfl | rfl | rfl <;> omega) (by rcases hc with rfl | rfl | rfl <;> omega) (by rcases hc with rfl | rfl | rfl <;> omega) (by rcases hc with rfl | rfl | rfl <;> omega)
  unfold zTC
  rw [h1, h2, h3]
  exact hT
theorem c57 (hc : zst c) (hV : zV h c s) (hn : s 0 = nI n) (h10 : n ≤ 10) (hQ : ∀ h', sq c h h' → zV h' c (upd (zfo (cCrossF x0 (1 - s 6)) n s) 6 (1 - s 6)) → Q none h') : zM (d + 1) 57 [.ref c, .int x0] h Q := by
  obtain ⟨⟨v0, v1, v2, v3, v4, v5⟩, ⟨u0, u1, u2, u3, u4, u5⟩, hl⟩ := id hV
  have e0 : zok 0 6 = True := by unfold zok; decide
  rw [m57]
  simp only [↓r57_0, ↓r57_1, ↓r57_2, ↓r57_5, ↓r57_6, ↓r57_7, ↓r57_8, ↓r57_9, ↓r57_10, ↓r57_12, ↓r57_13, ↓r57_16, ↓r57_19, ↓r57_20, ↓r57_21, ↓r57_22, ↓r57_23, ↓r57_24, ↓r57_25, ↓r57_28, ↓r57_29, ↓r57_32, ↓r57_33, ↓r57_34, ↓r57_35, ↓r57_36, ↓r57_39, ↓r57_40, ↓r57_41, ↓r57_42, ↓r57_43, ↓r57_46, ↓r57_47, ↓r57_48, ↓r57_49, ↓r57_50, ↓r57_51, ↓r57_52, ↓r57_55, ↓r57_58, ↓r57_59, ↓r57_62, ↓r57_63, ↓r57_64, ↓r57_65, zl_s1 hc, zs_s1 hc, zn_s1 hc, zl_s2 hc, zs_s2 hc, zn_s2 hc, zl_s3 hc, zs_s3 hc, zn_s3 hc, zl_s4 hc, zs_s4 hc, zn_s4 hc, zl_s5 hc, zs_s5 hc, zn_s5 hc, zl_s6 hc, zs_s6 hc, zn_s6 hc, zl_s7 hc, zs_s7 hc, zn_s7 hc, zc_s hc, true_and, e0, zix0, u0]
  have hs : ∀ (i : Nat) (h' : zH), i < n → (zV h' c (zfo (cCrossF x0 (1 - s 6)) i s) ∧ sq c h h' ∧ h' c = h c) → (zR d 57 Q 11 [some (.ref c), some (.int x0), some (.int (1 - s 6)), some (.int (nI i))] [] h' = zR d 57 Q 11 [some (.ref c), some (.int x0), some (.int (1 - s 6)), some (.int (nI (i + 1)))] [] (if bitOf x0 i = 1 then zhr (zhr (zhr h' (c + 3) (upd (h' (c + 3)) i (1 - s 6))) (c + 4) (upd (h' (c + 4)) i 0)) (c + 5) (upd (h' (c + 5)) i (h' (c + 5) i + 1)) else h')) ∧ (zV (if bitOf x0 i = 1 then zhr (zhr (zhr h' (c + 3) (upd (h' (c + 3)) i (1 - s 6))) (c + 4) (upd (h' (c + 4)) i 0)) (c + 5) (upd (h' (c + 5)) i (h' (c + 5) i + 1)) else h') c (zfo (cCrossF x0 (1 - s 6)) (i + 1) s) ∧ sq c h (if bitOf x0 i = 1 then zhr (zhr (zhr h' (c + 3) (upd (h' (c + 3)) i (1 - s 6))) (c + 4) (upd (h' (c + 4)) i 0)) (c + 5) (upd (h' (c + 5)) i (h' (c + 5) i + 1)) else h') ∧ (if bitOf x0 i = 1 then zhr (zhr (zhr h' (c + 3) (upd (h' (c + 3)) i (1 - s 6))) (c + 4) (upd (h' (c + 4)) i 0)) (c + 5) (upd (h' (c + 5)) i (h' (c + 5) i + 1)) else h') c = h c) := by
    intro i h' hi hI
    obtain ⟨I1, I2, I3⟩ := hI
    have n34 : ∀ a b : Nat, a ≠ b → ¬ c + a = c + b := fun a b q => by omega
    constructor
    · rw [r57_11]
      simp only [↓r57_0, ↓r57_1, ↓r57_2, ↓r57_5, ↓r57_6, ↓r57_7, ↓r57_8, ↓r57_9, ↓r57_10, ↓r57_12, ↓r57_13, ↓r57_16, ↓r57_19, ↓r57_20, ↓r57_21, ↓r57_22, ↓r57_23, ↓r57_24, ↓r57_25, ↓r57_28, ↓r57_29, ↓r57_32, ↓r57_33, ↓r57_34, ↓r57_35, ↓r57_36, ↓r57_39, ↓r57_40, ↓r57_41, ↓r57_42, ↓r57_43, ↓r57_46, ↓r57_47, ↓r57_48, ↓r57_49, ↓r57_50, ↓r57_51, ↓r57_52, ↓r57_55, ↓r57_58, ↓r57_59, ↓r57_62, ↓r57_63, ↓r57_64, ↓r57_65, zl_s1 hc, zs_s1 hc, zn_s1 hc, zl_s2 hc, zs_s2 hc, zn_s2 hc, zl_s3 hc, zs_s3 hc, zn_s3 hc, zl_s4 hc, zs_s4 hc, zn_s4 hc, zl_s5 hc, zs_s5 hc, zn_s5 hc, zl_s6 hc, zs_s6 hc, zn_s6 hc, zl_s7 hc, zs_s7 hc, zn_s7 hc, zc_s hc, true_and, I3, v0, hn, nI_lt hi (by omega : n < 2 ^ 31), if_true, nI_1, zok_nI (by omega : i < 10) (by omega), zix_nI (by omega : i < 2 ^ 31), zhr_ap, if_neg (n34 4 3 (by omega)), if_neg (n34 5 3 (by omega)), if_neg (n34 5 4 (by omega))]
      by_cases g : bitOf x0 i = 1
      · have g' : x0 >>> (nI i &&& 31) &&& 1 = 1 := g
        simp only [if_pos g, if_pos g']
      · have g' : ¬ x0 >>> (nI i &&& 31) &&& 1 = 1 := g
        simp only [if_neg g, if_neg g']
    · show zV _ c (cCrossF x0 (1 - s 6) i (zfo (cCrossF x0 (1 - s 6)) i s)) ∧ _
      generalize zfo (cCrossF x0 (1 - s 6)) i s = r at I1 ⊢
      unfold cCrossF
      by_cases g : bitOf x0 i = 1
      · simp only [if_pos g]
        have a3 := zV_load (v := 1 - s 6) (w := 2) (by omega) (by omega : i < 10) I1
        have a4 := zV_load (v := 0) (w := 3) (by omega) (by omega : i < 10) a3
        have a5 := zV_load (v := r (12 + 5 * i + 4) + 1) (w := 4) (by omega) (by omega : i < 10) a4
        have b4 : zhr h' (c + 1 + 2) (upd (h' (c + 1 + 2)) i (1 - s 6)) (c + 1 + 3) = h' (c + 4) := zhr_ne _ _ (by omega)
        have b5 : zhr (zhr h' (c + 1 + 2) (upd (h' (c + 1 + 2)) i (1 - s 6))) (c + 1 + 3) (upd (h' (c + 4)) i 0) (c + 1 + 4) = h' (c + 5) := by rw [zhr_ne _ _ (by omega), zhr_ne _ _ (by omega)]
        rw [b4, b5] at a5
        have e5 : h' (c + 5) i = r (12 + 5 * i + 4) := (I1.2.2 i (by omega)).2.2.2.2
        rw [e5]
        refine ⟨a5, ?_, ?_⟩
        · exact sq_tr (sq_tr (sq_tr I2 (sq_row (Or.inl rfl))) (sq_row (Or.inr (Or.inl rfl)))) (sq_row (Or.inr (Or.inr (Or.inl rfl))))
        · rw [zhr_ne _ _ (by omega), zhr_ne _ _ (by omega), zhr_ne _ _ (by omega)]; exact I3
      · simp only [if_neg g]
        exact ⟨I1, I2, I3⟩
  have := zloopI (fun i (h' : zH) => zR d 57 Q 11 [some (.ref c), some (.int x0), some (.int (1 - s 6)), some (.int (nI i))] [] h') (fun i h' => zV h' c (zfo (cCrossF x0 (1 - s 6)) i s) ∧ sq c h h' ∧ h' c = h c) _ n hs h ⟨hV, sq_rf, rfl⟩
  obtain ⟨hW, hI⟩ := this
  simp only [nI_0] at hW
  rw [hW]
  generalize zfo (fun i h' => _) n h = h2 at hI ⊢
  obtain ⟨I1, I2, I3⟩ := hI
  rw [r57_11]
  simp only [↓r57_0, ↓r57_1, ↓r57_2, ↓r57_5, ↓r57_6, ↓r57_7, ↓r57_8, ↓r57_9, ↓r57_10, ↓r57_12, ↓r57_13, ↓r57_16, ↓r57_19, ↓r57_20, ↓r57_21, ↓r57_22, ↓r57_23, ↓r57_24, ↓r57_25, ↓r57_28, ↓r57_29, ↓r57_32, ↓r57_33, ↓r57_34, ↓r57_35, ↓r57_36, ↓r57_39, ↓r57_40, ↓r57_41, ↓r57_42, ↓r57_43, ↓r57_46, ↓r57_47, ↓r57_48, ↓r57_49, ↓r57_50, ↓r57_51, ↓r57_52, ↓r57_55, ↓r57_58, ↓r57_59, ↓r57_62, ↓r57_63, ↓r57_64, ↓r57_65, zl_s1 hc, zs_s1 hc, zn_s1 hc, zl_s2 hc, zs_s2 hc, zn_s2 hc, zl_s3 hc, zs_s3 hc, zn_s3 hc, zl_s4 hc, zs_s4 hc, zn_s4 hc, zl_s5 hc, zs_s5 hc, zn_s5 hc, zl_s6 hc, zs_s6 hc, zn_s6 hc, zl_s7 hc, zs_s7 hc, zn_s7 hc, zc_s hc, true_and, I3, v0, hn, nI_nlt (Nat.le_refl n) (by omega), if_false, e0, zix0]
  exact hQ _ (sq_tr I2 (sq_row (Or.inr (Or.inr (Or.inr rfl))))) (zV_rule (j := 0) (by omega) I1)
end
