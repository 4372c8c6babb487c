/-! loops: a body done n times; a search -/
def zfo {σ : Type} (f : Nat → σ → σ) : Nat → σ → σ
  | 0, s => s
  | n + 1, s => f n (zfo f n s)
theorem zloop {σ : Type} (W : Nat → σ → Prop) (f : Nat → σ → σ) (n : Nat) (hs : ∀ i s, i < n → W i s = W (i + 1) (f i s)) (s : σ) : W 0 s = W n (zfo f n s) := by
  have key : ∀ i, i ≤ n → W 0 s = W i (zfo f i s) := by
    intro i
    induction i with
    | zero => intro _; rfl
    | succ i ih => intro hi; rw [ih (by omega), hs i _ (by omega)]; rfl
  exact key n (Nat.le_refl n)
theorem zloopI {σ : Type} (W : Nat → σ → Prop) (I : Nat → σ → Prop) (f : Nat → σ → σ) (n : Nat) (hs : ∀ i s, i < n → I i s → W i s = W (i + 1) (f i s) ∧ I (i + 1) (f i s)) (s : σ) (h0 : I 0 s) : W 0 s = W n (zfo f n s) ∧ I n (zfo f n s) := by
  have key : ∀ i, i ≤ n → W 0 s = W i (zfo f i s) ∧ I i (zfo f i s) := by
    intro i
    induction i with
    | zero => intro _; exact ⟨rfl, h0⟩
    | succ i ih =>
      intro hi
      obtain ⟨a, b⟩ := ih (by omega)
      obtain ⟨c, e⟩ := hs i _ (by omega) b
      exact ⟨by rw [a, c]; rfl, e⟩
  exact key n (Nat.le_refl n)
def zany (p : Nat → Bool) : Nat → Bool
  | 0 => false
  | n + 1 => zany p n || p n
theorem zsearch (W : Nat → Prop) (E : Prop) (p : Nat → Bool) (n : Nat) (hs : ∀ i, i < n → W i = if p i = true then E else W (i + 1)) : W 0 = if zany p n = true then E else W n := by
  have key : ∀ i, i ≤ n → W 0 = if zany p i = true then E else W i := by
    intro i
    induction i with
    | zero => intro _; simp [zany]
    | succ i ih =>
      intro hi
      rw [ih (by omega), hs i (by omega)]
      simp only [zany, Bool.or_eq_true]
      by_cases a : zany p i = true <;> by_cases b : p i = true <;> simp [a, b]
  exact key n (Nat.le_refl n)
theorem zfo_cong {σ : Type} {f g : Nat → σ → σ} {n : Nat} (hfg : ∀ i s, i < n → f i s = g i s) (s : σ) : zfo f n s = zfo g n s := by
  have key : ∀ i, i ≤ n → zfo f i s = zfo g i s := by
    intro i
    induction i with
    | zero => intro _; rfl
    | succ i ih => intro hi; simp only [zfo]; rw [ih (by omega), hfg i _ (by omega)]
  exact key n (Nat.le_refl n)
theorem zany_cong {p q : Nat → Bool} {n : Nat} (hpq : ∀ i, i < n → p i = q i) : zany p n = zany q n := by
  have key : ∀ i, i ≤ n → zany p i = zany q i := by
    intro i
    induction i with
    | zero => intro _; rfl
    | succ i ih => intro hi; simp only [zany]; rw [ih (by omega), hpq i (by omega)]
  exact key n (Nat.le_refl n)
theorem kix (k w : Nat) : 12 + 5 * nI k + nI w = nI (12 + 5 * k + w) := by
  rw [show (12 : Int32) = nI 12 from rfl, show (5 : Int32) = nI 5 from rfl, pk_mul, nI_add, nI_add]
section
variable {d : Nat} {Q : Option Value → zH → Prop} {h : zH} {x x0 x1 x2 x3 x4 : Int32} {c n k : Nat}
theorem c113k {w : Nat} {x1 : Int32} (hw : x1 = nI w) (hk : k < 10) (hw5 : w < 5) : zM (d + 1) 113 [.ref 60, .int (nI k), .int x1] h Q = Q (some (.int (h 61 (12 + 5 * k + w)))) h := by
  subst hw
  rw [c113, kix]
  simp only [zok_nI (k := 12 + 5 * k + w) (n := 3062) (by omega) (by omega), true_and, zix_nI (k := 12 + 5 * k + w) (by omega)]
theorem c114k {w : Nat} {x1 : Int32} (hw : x1 = nI w) (hk : k < 10) (hw5 : w < 5) : zM (d + 1) 114 [.ref 60, .int (nI k), .int x1, .int x2] h Q = Q none (zhr h 61 (upd (h 61) (12 + 5 * k + w) x2)) := by
  subst hw
  rw [c114, kix]
  simp only [zok_nI (k := 12 + 5 * k + w) (n := 3062) (by omega) (by omega), true_and, zix_nI (k := 12 + 5 * k + w) (by omega)]
theorem c113_0 (hk : k < 10) : zM (d + 1) 113 [.ref 60, .int (nI k), .int 0] h Q = Q (some (.int (h 61 (12 + 5 * k + 0)))) h := c113k (w := 0) rfl hk (by omega)
theorem c114_0 (hk : k < 10) : zM (d + 1) 114 [.ref 60, .int (nI k), .int 0, .int x2] h Q = Q none (zhr h 61 (upd (h 61) (12 + 5 * k + 0) x2)) := c114k (w := 0) rfl hk (by omega)
theorem c113_1 (hk : k < 10) : zM (d + 1) 113 [.ref 60, .int (nI k), .int 1] h Q = Q (some (.int (h 61 (12 + 5 * k + 1)))) h := c113k (w := 1) rfl hk (by omega)
theorem c114_1 (hk : k < 10) : zM (d + 1) 114 [.ref 60, .int (nI k), .int 1, .int x2] h Q = Q none (zhr h 61 (upd (h 61) (12 + 5 * k + 1) x2)) := c114k (w := 1) rfl hk (by omega)
theorem c113_2 (hk : k < 10) : zM (d + 1) 113 [.ref 60, .int (nI k), .int 2] h Q = Q (some (.int (h 61 (12 + 5 * k + 2)))) h := c113k (w := 2) rfl hk (by omega)
theorem c114_2 (hk : k < 10) : zM (d + 1) 114 [.ref 60, .int (nI k), .int 2, .int x2] h Q = Q none (zhr h 61 (upd (h 61) (12 + 5 * k + 2) x2)) := c114k (w := 2) rfl hk (by omega)
theorem c113_3 (hk : k < 10) : zM (d + 1) 113 [.ref 60, .int (nI k), .int 3] h Q = Q (some (.int (h 61 (12 + 5 * k + 3)))) h := c113k (w := 3) rfl hk (by omega)
theorem c114_3 (hk : k < 10) : zM (d + 1) 114 [.ref 60, .int (nI k), .int 3, .int x2] h Q = Q none (zhr h 61 (upd (h 61) (12 + 5 * k + 3) x2)) := c114k (w := 3) rfl hk (by omega)
theorem c113_4 (hk : k < 10) : zM (d + 1) 113 [.ref 60, .int (nI k), .int 4] h Q = Q (some (.int (h 61 (12 + 5 * k + 4)))) h := c113k (w := 4) rfl hk (by omega)
theorem c114_4 (hk : k < 10) : zM (d + 1) 114 [.ref 60, .int (nI k), .int 4, .int x2] h Q = Q none (zhr h 61 (upd (h 61) (12 + 5 * k + 4) x2)) := c114k (w := 4) rfl hk (by omega)
theorem zok0 : zok 0 3062 = True := by unfold zok; decide
theorem zok1 : zok 1 3062 = True := by unfold zok; decide
theorem zix0 : zix 0 = 0 := rfl
theorem zix1 : zix 1 = 1 := rfl
/-- how many stand on a bank -/
def sCnt (s : Nat → Int32) (b : Int32) (n : Nat) : Int32 := zfo (fun i a => if s (12 + 5 * i + 2) = b then a + 1 else a) n 0
theorem c141 (hn : h 61 0 = nI n) (h10 : n ≤ 10) : zM (d + 2) 141 [.ref 60, .int x0] h Q = Q (some (.int (sCnt (h 61) x0 n))) h := by
  rw [m141]
  simp only [↓r141_0, ↓r141_1, ↓r141_2, ↓r141_3, ↓r141_5, ↓r141_6, ↓r141_9, ↓r141_10, ↓r141_11, ↓r141_14, ↓r141_15, ↓r141_16, ↓r141_17, ↓r141_18, ↓r141_21, ↓r141_22, ↓r141_25, ↓r141_26, ↓r141_29, ↓r141_30, ↓r141_31, ↓r141_32, ↓r141_35, ↓r141_38, ↓r141_39]
  have hs : ∀ (i : Nat) (a : Int32), i < n → zR (d + 1) 141 Q 4 [some (.ref 60), some (.int x0), some (.int a), some (.int (nI i))] [] h = zR (d + 1) 141 Q 4 [some (.ref 60), some (.int x0), some (.int (if h 61 (12 + 5 * i + 2) = x0 then a + 1 else a)), some (.int (nI (i + 1)))] [] h := by
    intro i a hi
    rw [r141_4]
    simp only [↓r141_0, ↓r141_1, ↓r141_2, ↓r141_3, ↓r141_5, ↓r141_6, ↓r141_9, ↓r141_10, ↓r141_11, ↓r141_14, ↓r141_15, ↓r141_16, ↓r141_17, ↓r141_18, ↓r141_21, ↓r141_22, ↓r141_25, ↓r141_26, ↓r141_29, ↓r141_30, ↓r141_31, ↓r141_32, ↓r141_35, ↓r141_38, ↓r141_39, zl_61, zok0, zix0, true_and, hn, nI_lt hi (by omega : n < 2 ^ 31), if_true, c113_2 (by omega : i < 10), Option.toList, List.cons_append, List.nil_append, nI_1]
    split <;> simp
  have := zloop (fun i a => zR (d + 1) 141 Q 4 [some (.ref 60), some (.int x0), some (.int a), some (.int (nI i))] [] h) _ n hs 0
  simp only [nI_0] at this
  rw [this, r141_4]
  simp only [↓r141_0, ↓r141_1, ↓r141_2, ↓r141_3, ↓r141_5, ↓r141_6, ↓r141_9, ↓r141_10, ↓r141_11, ↓r141_14, ↓r141_15, ↓r141_16, ↓r141_17, ↓r141_18, ↓r141_21, ↓r141_22, ↓r141_25, ↓r141_26, ↓r141_29, ↓r141_30, ↓r141_31, ↓r141_32, ↓r141_35, ↓r141_38, ↓r141_39, zl_61, zok0, zix0, true_and, hn, nI_nlt (Nat.le_refl n) (by omega), if_false, sCnt]
theorem c40 (hc : zst c) (hn : h c 1 = nI n) (h10 : n ≤ 10) : zM (d + 2) 40 [.ref c, .int x0] h Q = Q (some (.int (zfo (fun i a => if h (c + 3) i = x0 then a + 1 else a) n 0))) h := by
  rw [m40]
  simp only [↓r40_0, ↓r40_1, ↓r40_2, ↓r40_3, ↓r40_5, ↓r40_6, ↓r40_9, ↓r40_12, ↓r40_13, ↓r40_16, ↓r40_17, ↓r40_18, ↓r40_19, ↓r40_22, ↓r40_25, ↓r40_28, ↓r40_31, ↓r40_32, zl_s1 hc, zs_s1 hc, zn_s1 hc, zl_s2 hc, zs_s2 hc, zn_s2 hc, zl_s3 hc, zs_s3 hc, zn_s3 hc, zl_s4 hc, zs_s4 hc, zn_s4 hc, zl_s5 hc, zs_s5 hc, zn_s5 hc, zl_s6 hc, zs_s6 hc, zn_s6 hc, zl_s7 hc, zs_s7 hc, zn_s7 hc, zc_s hc, true_and]
  have hs : ∀ (i : Nat) (a : Int32), i < n → zR (d + 1) 40 Q 4 [some (.ref c), some (.int x0), some (.int a), some (.int (nI i))] [] h = zR (d + 1) 40 Q 4 [some (.ref c), some (.int x0), some (.int (if h (c + 3) i = x0 then a + 1 else a)), some (.int (nI (i + 1)))] [] h := by
    intro i a hi
    rw [r40_4]
    simp only [↓r40_0, ↓r40_1, ↓r40_2, ↓r40_3, ↓r40_5, ↓r40_6, ↓r40_9, ↓r40_12, ↓r40_13, ↓r40_16, ↓r40_17, ↓r40_18, ↓r40_19, ↓r40_22, ↓r40_25, ↓r40_28, ↓r40_31, ↓r40_32, zl_s1 hc, zs_s1 hc, zn_s1 hc, zl_s2 hc, zs_s2 hc, zn_s2 hc, zl_s3 hc, zs_s3 hc, zn_s3 hc, zl_s4 hc, zs_s4 hc, zn_s4 hc, zl_s5 hc, zs_s5 hc, zn_s5 hc, zl_s6 hc, zs_s6 hc, zn_s6 hc, zl_s7 hc, zs_s7 hc, zn_s7 hc, zc_s hc, true_and, hn, nI_lt hi (by omega : n < 2 ^ 31), if_true, zok_nI (by omega : i < 10) (by omega), zix_nI (by omega : i < 2 ^ 31), Option.toList, List.cons_append, List.nil_append, nI_1]
    split <;> simp
  have := zloop (fun i a => zR (d + 1) 40 Q 4 [some (.ref c), some (.int x0), some (.int a), some (.int (nI i))] [] h) _ n hs 0
  simp only [nI_0] at this
  rw [this, r40_4]
  simp only [↓r40_0, ↓r40_1, ↓r40_2, ↓r40_3, ↓r40_5, ↓r40_6, ↓r40_9, ↓r40_12, ↓r40_13, ↓r40_16, ↓r40_17, ↓r40_18, ↓r40_19, ↓r40_22, ↓r40_25, ↓r40_28, ↓r40_31, ↓r40_32, zl_s1 hc, zs_s1 hc, zn_s1 hc, zl_s2 hc, zs_s2 hc, zn_s2 hc, zl_s3 hc, zs_s3 hc, zn_s3 hc, zl_s4 hc, zs_s4 hc, zn_s4 hc, zl_s5 hc, zs_s5 hc, zn_s5 hc, zl_s6 hc, zs_s6 hc, zn_s6 hc, zl_s7 hc, zs_s7 hc, zn_s7 hc, zc_s hc, true_and, hn, nI_nlt (Nat.le_refl n) (by omega), if_false]
end
