/-! best -/
def uSh (x : Int32) (s : Int32) : Int32 := (x.toUInt32 >>> (s.toUInt32 &&& Int32.toUInt32 31)).toInt32
def kB1 (x : Int32) : Int32 := x - (uSh x 1 &&& 1431655765)
def kB2 (x : Int32) : Int32 := (x &&& 858993459) + (uSh x 2 &&& 858993459)
def kB3 (x : Int32) : Int32 := (x + uSh x 4) &&& 252645135
def kB4 (x : Int32) : Int32 := x + uSh x 8
def kB5 (x : Int32) : Int32 := x + uSh x 16
def kBC (x : Int32) : Int32 := kB5 (kB4 (kB3 (kB2 (kB1 x)))) &&& 63
def mZ : Nat → Int32 → Bool
  | 0, x => decide (x = 0)
  | f + 1, x => decide (x = 0) || mZ f (x &&& (x - 1))
def mN : Nat → Int32 → Int32 → Int32
  | 0, a, _ => a
  | f + 1, a, x => if x = 0 then a else mN f (a + 1) (x &&& (x - 1))
def bS (τ : zTau) (s : Nat → Int32) (n : Nat) (x : Int32) : Int32 := zfr (sPaidF τ s x) n 0 0
def bTF (s : Nat → Int32) (x : Int32) (i : Nat) (a : Int32) : Int32 := if bitOf x i = 1 then a + kTakes (s (12 + 5 * i + 0)) else a
def bWF (s : Nat → Int32) (x : Int32) (i : Nat) (a : Int32) : Int32 := if bitOf x i = 1 then a + s (12 + 5 * i + 1) else a
def bT (s : Nat → Int32) (n : Nat) (x : Int32) : Int32 := zfo (bTF s x) n 0
def bW (s : Nat → Int32) (n : Nat) (x : Int32) : Int32 := zfo (bWF s x) n 0
abbrev bMay (τ : zTau) (s : Nat → Int32) (n : Nat) (x : Int32) : Prop := bT s n x ≤ s 8 ∧ pPull (τ 1) (s 9) (bW s n x) (s 7) ≤ s 10
abbrev bOk (τ : zTau) (s : Nat → Int32) (n : Nat) (H x : Int32) : Prop := x &&& (H ^^^ -1) = 0 ∧ bMay τ s n x
abbrev bMore (τ : zTau) (s : Nat → Int32) (n : Nat) (x : Int32) (p : Int32 × Int32) : Prop := p.1 < 0 ∨ ¬ bS τ s n x ≤ p.2 ∨ (bS τ s n x = p.2 ∧ kBC x < kBC p.1)
def bF (τ : zTau) (s : Nat → Int32) (n : Nat) (H : Int32) (k : Nat) (p : Int32 × Int32) : Int32 × Int32 := if bOk τ s n H (nI k) ∧ bMore τ s n (nI k) p then (nI k, bS τ s n (nI k)) else p
def bHF (s : Nat → Int32) (b : Int32) (i : Nat) (a : Int32) : Int32 := if s (12 + 5 * i + 2) = b then a ||| (1 <<< (nI i &&& 31)) else a
def bH (s : Nat → Int32) (n : Nat) : Int32 := zfo (bHF s (s 6)) n 0
section
variable {d : Nat} {x0 x1 x2 x3 x4 v x a u H : Int32} {h h' h1 h2 : zH} {n m N n' m' k w j f b c t i z : Nat} {s row row' F : Nat → Int32} {Q : Option Value → zH → Prop} {τ : zTau}
theorem zfr_zfo {g : Nat → Int32 → Int32} {s : Int32} : ∀ f i, zfr g f i (zfo g i s) = zfo g (i + f) s
  | 0, _ => rfl
  | f + 1, i => by
    show zfr g f (i + 1) (zfo g (i + 1) s) = _
    rw [zfr_zfo f (i + 1), show i + 1 + f = i + (f + 1) by omega]
theorem bS_zfo : bS τ s n x = zfo (sPaidF τ s x) n 0 := by
  have := zfr_zfo (g := sPaidF τ s x) (s := 0) n 0
  rw [Nat.zero_add] at this
  exact this
theorem c201 : zM (d + 1) 201 [.int x0] h Q = Q (some (.int (kBC x0))) h := by
  rw [m201]
  simp only [↓r201_0, ↓r201_1, ↓r201_2, ↓r201_3, ↓r201_4, ↓r201_7, ↓r201_8, ↓r201_9, ↓r201_10, ↓r201_11, ↓r201_14, ↓r201_15, ↓r201_16, ↓r201_17, ↓r201_18, ↓r201_21, ↓r201_22, ↓r201_23, ↓r201_24, ↓r201_25, ↓r201_26, ↓r201_27, ↓r201_28, ↓r201_29, ↓r201_32, ↓r201_33, ↓r201_34, ↓r201_35, ↓r201_36, ↓r201_38, ↓r201_39, ↓r201_40, ↓r201_41, ↓r201_42, ↓r201_43, ↓r201_45, ↓r201_46, ↓r201_47, ↓r201_48, ↓r201_49, ↓r201_51, ↓r201_52]
  rfl
theorem many_eq : ∀ k, k < 1024 → mZ 11 (nI k) = true ∧ mN 11 0 (nI k) = kBC (nI k) := by decide +kernel
theorem c110_loop : ∀ (f : Nat) (a x : Int32), mZ f x = true → zR d 110 Q 4 [some (.int x0), some (.int a), some (.int x)] [] h = Q (some (.int (mN f a x))) h
  | 0, a, x, g => by
    have e : x = 0 := of_decide_eq_true g
    subst e
    rw [r110_4]
    simp (decide := true) only [↓r110_0, ↓r110_1, ↓r110_2, ↓r110_3, ↓r110_5, ↓r110_8, ↓r110_11, ↓r110_12, ↓r110_13, ↓r110_14, ↓r110_15, ↓r110_16, ↓r110_17, ↓r110_20, ↓r110_21, ↓reduceIte]
    rfl
  | f + 1, a, x, g => by
    rw [r110_4]
    by_cases e : x = 0
    · subst e
      simp (decide := true) only [↓r110_0, ↓r110_1, ↓r110_2, ↓r110_3, ↓r110_5, ↓r110_8, ↓r110_11, ↓r110_12, ↓r110_13, ↓r110_14, ↓r110_15, ↓r110_16, ↓r110_17, ↓r110_20, ↓r110_21, ↓reduceIte]
      rfl
    · have g2 : mZ f (x &&& (x - 1)) = true := by
        have : (decide (x = 0) || mZ f (x &&& (x - 1))) = true := g
        simpa [e] using this
      simp only [↓r110_0, ↓r110_1, ↓r110_2, ↓r110_3, ↓r110_5, ↓r110_8, ↓r110_11, ↓r110_12, ↓r110_13, ↓r110_14, ↓r110_15, ↓r110_16, ↓r110_17, ↓r110_20, ↓r110_21, if_neg e]
      rw [c110_loop f (a + 1) _ g2]
      show _ = Q (some (.int (if x = 0 then a else mN f (a + 1) (x &&& (x - 1))))) h
      rw [if_neg e]
theorem c110 (hk : k < 1024) : zM (d + 1) 110 [.int (nI k)] h Q = Q (some (.int (kBC (nI k)))) h := by
  obtain ⟨e1, e2⟩ := many_eq k hk
  rw [m110]
  simp only [↓r110_0, ↓r110_1, ↓r110_2, ↓r110_3, ↓r110_5, ↓r110_8, ↓r110_11, ↓r110_12, ↓r110_13, ↓r110_14, ↓r110_15, ↓r110_16, ↓r110_17, ↓r110_20, ↓r110_21]
  rw [c110_loop 11 0 (nI k) e1, e2]
theorem nI_bits (k : Nat) (hk : k < 2 ^ 31) : (nI k).toBitVec.toNat = k := by
  show (Int32.ofNat k).toBitVec.toNat = k
  simp
  omega
theorem sub_le {k l : Nat} (hk : k < 2 ^ 31) (hl : l < 2 ^ 31) (g : nI k &&& (nI l ^^^ -1) = 0) : k ≤ l := by
  have e : nI k &&& nI l = nI k := by
    apply b_ext
    intro i hi
    have := congrArg (fun q => bt q i) g
    simp only [b_and, b_xor, b_0] at this
    have m1 : bt (-1) i = true := by
      unfold bt
      show (BitVec.ofInt 32 (-1)).getLsbD i = true
      rw [show (BitVec.ofInt 32 (-1)) = BitVec.allOnes 32 from by decide, BitVec.getLsbD_allOnes]
      simpa using hi
    rw [m1] at this
    rw [b_and]
    cases q1 : bt (nI k) i <;> cases q2 : bt (nI l) i <;> simp [q1, q2] at this ⊢
  have e2 := congrArg (fun q : Int32 => q.toBitVec.toNat) e
  simp only [Int32.toBitVec_and, BitVec.toNat_and, nI_bits k hk, nI_bits l hl] at e2
  rw [← e2]
  exact Nat.and_le_right
theorem bH_hi (s : Nat → Int32) (b : Int32) : ∀ n, n ≤ 10 → ∀ i, n ≤ i → i < 32 → bt (zfo (bHF s b) n 0) i = false
  | 0, _, i, _, _ => b_0 i
  | n + 1, h, i, hi, h32 => by
    show bt (bHF s b n (zfo (bHF s b) n 0)) i = false
    have ih := bH_hi s b n (by omega) i (by omega) h32
    unfold bHF at ih ⊢
    by_cases g : s (12 + 5 * n + 2) = b
    · rw [if_pos g, bt_set _ h32 (by omega)]
      simp only [ih, Bool.false_or, decide_eq_false_iff_not]
      omega
    · rw [if_neg g]; exact ih
theorem bH_nI (s : Nat → Int32) (h10 : n ≤ 10) : ∃ l, l < 2 ^ n ∧ bH s n = nI l := by
  have h2 : (bH s n).toBitVec.toNat < 2 ^ n := by
    apply Nat.lt_pow_two_of_testBit
    intro i hi
    by_cases g : i < 32
    · exact bH_hi s (s 6) n h10 i hi g
    · apply Nat.testBit_lt_two_pow
      have := (bH s n).toBitVec.isLt
      exact Nat.lt_of_lt_of_le this (Nat.pow_le_pow_right (by omega) (by omega))
  have h3 : 2 ^ n ≤ 1024 := Nat.pow_le_pow_right (n := 2) (by omega) h10
  refine ⟨_, h2, ?_⟩
  apply Int32.toBitVec_inj.mp
  apply BitVec.eq_of_toNat_eq
  rw [nI_bits _ (by omega)]
theorem c51 (hc : zst c) (hV : zV h c s) (hn : s 0 = nI n) (h10 : n ≤ 10) : zM (d + 1) 51 [.ref c, .int (s 6)] h Q = Q (some (.int (bH s n))) h := by
  have hn' : h c 1 = nI n := hV.1.1.trans hn
  have hs : ∀ (i : Nat) (a : Int32), i < n → zR d 51 Q 4 [some (.ref c), some (.int (s 6)), some (.int a), some (.int (nI i))] [] h = zR d 51 Q 4 [some (.ref c), some (.int (s 6)), some (.int (bHF s (s 6) i a)), some (.int (nI (i + 1)))] [] h := by
    intro i a hi
    have l2 := (hV.2.2 i (by omega)).2.2.1
    rw [r51_4]
    simp only [↓r51_0, ↓r51_1, ↓r51_2, ↓r51_3, ↓r51_5, ↓r51_6, ↓r51_9, ↓r51_12, ↓r51_13, ↓r51_16, ↓r51_17, ↓r51_18, ↓r51_19, ↓r51_22, ↓r51_23, ↓r51_24, ↓r51_25, ↓r51_26, ↓r51_27, ↓r51_28, ↓r51_31, ↓r51_34, ↓r51_35, zl_s1 hc, zs_s1 hc, zn_s1 hc, zl_s2 hc, zs_s2 hc, zn_s2 hc, zl_s3 hc, zs_s3 hc, zn_s3 hc, zl_s4 hc, zs_s4 hc, zn_s4 hc, zl_s5 hc, zs_s5 hc, zn_s5 hc, zl_s6 hc, zs_s6 hc, zn_s6 hc, zl_s7 hc, zs_s7 hc, zn_s7 hc, zc_s hc, true_and, hn', nI_lt hi (by omega : n < 2 ^ 31), if_true, zok_nI (by omega : i < 10) (by omega), zix_nI (by omega : i < 2 ^ 31), l2, nI_1]
    unfold bHF
    by_cases g : s (12 + 5 * i + 2) = s 6
    · simp only [if_pos g]
    · simp only [if_neg g]
  have := zloop (fun i (a : Int32) => zR d 51 Q 4 [some (.ref c), some (.int (s 6)), some (.int a), some (.int (nI i))] [] h) (bHF s (s 6)) n hs 0
  rw [m51]
  simp only [↓r51_0, ↓r51_1, ↓r51_2, ↓r51_3, ↓r51_5, ↓r51_6, ↓r51_9, ↓r51_12, ↓r51_13, ↓r51_16, ↓r51_17, ↓r51_18, ↓r51_19, ↓r51_22, ↓r51_23, ↓r51_24, ↓r51_25, ↓r51_26, ↓r51_27, ↓r51_28, ↓r51_31, ↓r51_34, ↓r51_35]
  rw [nI_0] at this
  rw [this, r51_4]
  simp only [↓r51_0, ↓r51_1, ↓r51_2, ↓r51_3, ↓r51_5, ↓r51_6, ↓r51_9, ↓r51_12, ↓r51_13, ↓r51_16, ↓r51_17, ↓r51_18, ↓r51_19, ↓r51_22, ↓r51_23, ↓r51_24, ↓r51_25, ↓r51_26, ↓r51_27, ↓r51_28, ↓r51_31, ↓r51_34, ↓r51_35, zl_s1 hc, zs_s1 hc, zn_s1 hc, zl_s2 hc, zs_s2 hc, zn_s2 hc, zl_s3 hc, zs_s3 hc, zn_s3 hc, zl_s4 hc, zs_s4 hc, zn_s4 hc, zl_s5 hc, zs_s5 hc, zn_s5 hc, zl_s6 hc, zs_s6 hc, zn_s6 hc, zl_s7 hc, zs_s7 hc, zn_s7 hc, zc_s hc, true_and, hn', nI_nlt (Nat.le_refl n) (by omega), if_false]
  rfl
theorem c52 (hc : zst c) (hV : zV h c s) (hn : s 0 = nI n) (h10 : n ≤ 10) (hT : zTC h c τ) (hQ : ∀ h', sc h h' → Q (some (.int (if bMay τ s n x0 then 1 else 0))) h') : zM (d + 4) 52 [.ref c, .int x0] h Q := by
  have hn' : h c 1 = nI n := hV.1.1.trans hn
  have hs : ∀ (i : Nat) (p : Int32 × Int32), i < n → zR (d + 3) 52 Q 7 [some (.ref c), some (.int x0), some (.int p.1), some (.int p.2), some (.int (nI i))] [] h = zR (d + 3) 52 Q 7 [some (.ref c), some (.int x0), some (.int (bTF s x0 i p.1)), some (.int (bWF s x0 i p.2)), some (.int (nI (i + 1)))] [] h := by
    intro i p hi
    obtain ⟨l0, l1, -⟩ := hV.2.2 i (by omega)
    rw [r52_7]
    simp only [↓r52_0, ↓r52_1, ↓r52_2, ↓r52_3, ↓r52_4, ↓r52_5, ↓r52_9, ↓r52_10, ↓r52_13, ↓r52_16, ↓r52_17, ↓r52_19, ↓r52_20, ↓r52_21, ↓r52_22, ↓r52_23, ↓r52_26, ↓r52_27, ↓r52_28, ↓r52_31, ↓r52_33, ↓r52_34, ↓r52_37, ↓r52_38, ↓r52_39, ↓r52_40, ↓r52_41, ↓r52_44, ↓r52_46, ↓r52_47, ↓r52_48, ↓r52_49, ↓r52_52, ↓r52_55, ↓r52_56, ↓r52_57, ↓r52_60, ↓r52_61, ↓r52_62, ↓r52_65, ↓r52_66, ↓r52_67, ↓r52_70, ↓r52_71, ↓r52_72, ↓r52_73, ↓r52_76, ↓r52_77, ↓r52_80, ↓r52_81, ↓r52_82, ↓r52_85, ↓r52_86, ↓r52_89, ↓r52_90f, ↓r52_90t, zl_s1 hc, zs_s1 hc, zn_s1 hc, zl_s2 hc, zs_s2 hc, zn_s2 hc, zl_s3 hc, zs_s3 hc, zn_s3 hc, zl_s4 hc, zs_s4 hc, zn_s4 hc, zl_s5 hc, zs_s5 hc, zn_s5 hc, zl_s6 hc, zs_s6 hc, zn_s6 hc, zl_s7 hc, zs_s7 hc, zn_s7 hc, zc_s hc, true_and, hn', nI_lt hi (by omega : n < 2 ^ 31), if_true, zok_nI (by omega : i < 10) (by omega), zix_nI (by omega : i < 2 ^ 31), l0, l1, c3, Option.toList, List.cons_append, List.nil_append, nI_1]
    unfold bTF bWF bitOf
    by_cases g : x0 >>> (nI i &&& 31) &&& 1 = 1
    · simp only [if_pos g]
    · simp only [if_neg g]
  have := zloop (fun i (p : Int32 × Int32) => zR (d + 3) 52 Q 7 [some (.ref c), some (.int x0), some (.int p.1), some (.int p.2), some (.int (nI i))] [] h) (fun i p => (bTF s x0 i p.1, bWF s x0 i p.2)) n hs (0, 0)
  have e1 : ∀ n, zfo (fun i (p : Int32 × Int32) => (bTF s x0 i p.1, bWF s x0 i p.2)) n (0, 0) = (bT s n x0, bW s n x0) := by
    intro n
    induction n with
    | zero => rfl
    | succ n ih =>
      show (bTF s x0 n (zfo (fun i (p : Int32 × Int32) => (bTF s x0 i p.1, bWF s x0 i p.2)) n (0, 0)).1, bWF s x0 n (zfo (fun i (p : Int32 × Int32) => (bTF s x0 i p.1, bWF s x0 i p.2)) n (0, 0)).2) = _
      rw [ih]
      rfl
  rw [e1] at this
  have u2 : h (c + 6) 2 = s 8 := hV.2.1.2.2.1
  have u3 : h (c + 6) 3 = s 9 := hV.2.1.2.2.2.1
  have u4 : h (c + 6) 4 = s 10 := hV.2.1.2.2.2.2.1
  have u1 : h (c + 6) 1 = s 7 := hV.2.1.2.1
  rw [m52]
  simp only [↓r52_0, ↓r52_1, ↓r52_2, ↓r52_3, ↓r52_4, ↓r52_5, ↓r52_9, ↓r52_10, ↓r52_13, ↓r52_16, ↓r52_17, ↓r52_19, ↓r52_20, ↓r52_21, ↓r52_22, ↓r52_23, ↓r52_26, ↓r52_27, ↓r52_28, ↓r52_31, ↓r52_33, ↓r52_34, ↓r52_37, ↓r52_38, ↓r52_39, ↓r52_40, ↓r52_41, ↓r52_44, ↓r52_46, ↓r52_47, ↓r52_48, ↓r52_49, ↓r52_52, ↓r52_55, ↓r52_56, ↓r52_57, ↓r52_60, ↓r52_61, ↓r52_62, ↓r52_65, ↓r52_66, ↓r52_67, ↓r52_70, ↓r52_71, ↓r52_72, ↓r52_73, ↓r52_76, ↓r52_77, ↓r52_80, ↓r52_81, ↓r52_82, ↓r52_85, ↓r52_86, ↓r52_89, ↓r52_90f, ↓r52_90t]
  simp only [nI_0] at this
  rw [this, r52_7]
  simp only [↓r52_0, ↓r52_1, ↓r52_2, ↓r52_3, ↓r52_4, ↓r52_5, ↓r52_9, ↓r52_10, ↓r52_13, ↓r52_16, ↓r52_17, ↓r52_19, ↓r52_20, ↓r52_21, ↓r52_22, ↓r52_23, ↓r52_26, ↓r52_27, ↓r52_28, ↓r52_31, ↓r52_33, ↓r52_34, ↓r52_37, ↓r52_38, ↓r52_39, ↓r52_40, ↓r52_41, ↓r52_44, ↓r52_46, ↓r52_47, ↓r52_48, ↓r52_49, ↓r52_52, ↓r52_55, ↓r52_56, ↓r52_57, ↓r52_60, ↓r52_61, ↓r52_62, ↓r52_65, ↓r52_66, ↓r52_67, ↓r52_70, ↓r52_71, ↓r52_72, ↓r52_73, ↓r52_76, ↓r52_77, ↓r52_80, ↓r52_81, ↓r52_82, ↓r52_85, ↓r52_86, ↓r52_89, ↓r52_90f, ↓r52_90t, zl_s1 hc, zs_s1 hc, zn_s1 hc, zl_s2 hc, zs_s2 hc, zn_s2 hc, zl_s3 hc, zs_s3 hc, zn_s3 hc, zl_s4 hc, zs_s4 hc, zn_s4 hc, zl_s5 hc, zs_s5 hc, zn_s5 hc, zl_s6 hc, zs_s6 hc, zn_s6 hc, zl_s7 hc, zs_s7 hc, zn_s7 hc, zc_s hc, true_and, hn', nI_nlt (Nat.le_refl n) (by omega), if_false, zoks, zixs, u2, u3]
  by_cases g : bT s n x0 ≤ s 8
  · simp only [if_pos g]
    refine d45 hc hT fun h2 e2 => ?_
    obtain ⟨a0, a1⟩ := sc_at hc e2
    have hQ' := hQ h2 e2
    simp only [↓r52_0, ↓r52_1, ↓r52_2, ↓r52_3, ↓r52_4, ↓r52_5, ↓r52_9, ↓r52_10, ↓r52_13, ↓r52_16, ↓r52_17, ↓r52_19, ↓r52_20, ↓r52_21, ↓r52_22, ↓r52_23, ↓r52_26, ↓r52_27, ↓r52_28, ↓r52_31, ↓r52_33, ↓r52_34, ↓r52_37, ↓r52_38, ↓r52_39, ↓r52_40, ↓r52_41, ↓r52_44, ↓r52_46, ↓r52_47, ↓r52_48, ↓r52_49, ↓r52_52, ↓r52_55, ↓r52_56, ↓r52_57, ↓r52_60, ↓r52_61, ↓r52_62, ↓r52_65, ↓r52_66, ↓r52_67, ↓r52_70, ↓r52_71, ↓r52_72, ↓r52_73, ↓r52_76, ↓r52_77, ↓r52_80, ↓r52_81, ↓r52_82, ↓r52_85, ↓r52_86, ↓r52_89, ↓r52_90f, ↓r52_90t, zl_s1 hc, zs_s1 hc, zn_s1 hc, zl_s2 hc, zs_s2 hc, zn_s2 hc, zl_s3 hc, zs_s3 hc, zn_s3 hc, zl_s4 hc, zs_s4 hc, zn_s4 hc, zl_s5 hc, zs_s5 hc, zn_s5 hc, zl_s6 hc, zs_s6 hc, zn_s6 hc, zl_s7 hc, zs_s7 hc, zn_s7 hc, zc_s hc, true_and, Option.toList, List.cons_append, List.nil_append, zoks, zixs, a1, u4, u1]
    by_cases g2 : pPull (τ 1) (s 9) (bW s n x0) (s 7) ≤ s 10
    · rw [if_pos ⟨g, g2⟩] at hQ'
      simp only [if_pos g2]
      exact hQ'
    · rw [if_neg (fun z => g2 z.2)] at hQ'
      simp only [if_neg g2]
      exact hQ'
  · have hQ' := hQ h (sc_rf h)
    rw [if_neg (fun z => g z.1)] at hQ'
    simp only [if_neg g]
    exact hQ'
theorem bF_in (τ : zTau) (s : Nat → Int32) (n : Nat) (H : Int32) : ∀ k, k ≤ 1024 → zfo (bF τ s n H) k (-1, 0) = (-1, 0) ∨ ∃ j, j < k ∧ zfo (bF τ s n H) k (-1, 0) = (nI j, bS τ s n (nI j))
  | 0, _ => Or.inl rfl
  | k + 1, h => by
    have ih := bF_in τ s n H k (by omega)
    show bF τ s n H k (zfo (bF τ s n H) k (-1, 0)) = (-1, 0) ∨ ∃ j, j < k + 1 ∧ bF τ s n H k (zfo (bF τ s n H) k (-1, 0)) = (nI j, bS τ s n (nI j))
    generalize zfo (bF τ s n H) k (-1, 0) = p at ih ⊢
    unfold bF
    by_cases g : bOk τ s n H (nI k) ∧ bMore τ s n (nI k) p
    · rw [if_pos g]; exact Or.inr ⟨k, by omega, rfl⟩
    · rw [if_neg g]
      rcases ih with e | ⟨j, e1, e2⟩
      · exact Or.inl e
      · exact Or.inr ⟨j, by omega, e2⟩
theorem bF_end (τ : zTau) (s : Nat → Int32) (n l : Nat) (hl : l < 2 ^ 31) : ∀ k, k < 2 ^ 31 → l + 1 ≤ k → zfo (bF τ s n (nI l)) k (-1, 0) = zfo (bF τ s n (nI l)) (l + 1) (-1, 0)
  | 0, _, h => absurd h (by omega)
  | k + 1, hk, h => by
    by_cases g : k = l
    · subst g; rfl
    · show bF τ s n (nI l) k (zfo (bF τ s n (nI l)) k (-1, 0)) = _
      rw [bF_end τ s n l hl k (by omega) (by omega)]
      unfold bF
      rw [if_neg (fun z => by have := sub_le (by omega) hl z.1.1; omega)]
theorem c50_loop (hc : zst c) (hV : zV h c s) (hB : zB s n m) (hT : zTC h c τ) {l : Nat} (hl : l < 1024) (hQ : ∀ h1, sc h h1 → Q (some (.int (zfo (bF τ s n (nI l)) (l + 1) (-1, 0)).1)) h1) : ∀ (g k : Nat) (h1 : zH) (o5 o6 : Option Value), k + g = l + 1 → sc h h1 → zR (d + 4) 50 Q 18 [some (.ref c), some (.int (nI l)), some (.int (zfo (bF τ s n (nI l)) k (-1, 0)).1), some (.int (zfo (bF τ s n (nI l)) k (-1, 0)).2), some (.int (nI k)), o5, o6] [] h1 := by
  intro g
  induction g with
  | zero =>
    intro k h1 o5 o6 hk e
    have hk' : k = l + 1 := by omega
    subst hk'
    have q : ¬ nI (l + 1) ≤ nI l := by rw [nI_leI (by omega) (by omega)]; omega
    rw [r50_18]
    simp only [↓r50_0, ↓r50_1, ↓r50_2, ↓r50_5, ↓r50_6, ↓r50_7, ↓r50_10, ↓r50_11, ↓r50_12, ↓r50_13, ↓r50_14, ↓r50_15, ↓r50_16, ↓r50_20, ↓r50_21, ↓r50_24, ↓r50_26, ↓r50_27, ↓r50_28, ↓r50_29, ↓r50_30, ↓r50_33, ↓r50_34, ↓r50_36, ↓r50_39, ↓r50_42, ↓r50_43, ↓r50_45, ↓r50_48, ↓r50_50, ↓r50_52, ↓r50_53, ↓r50_56, ↓r50_58, ↓r50_61, ↓r50_62, ↓r50_65, ↓r50_68, ↓r50_69, ↓r50_72, ↓r50_73, ↓r50_75, ↓r50_76, ↓r50_79, ↓r50_81, ↓r50_82, ↓r50_85, ↓r50_87, ↓r50_90, ↓r50_92, ↓r50_93, ↓r50_95, ↓r50_96, ↓r50_99, ↓r50_102, ↓r50_103, if_neg q]
    exact hQ h1 e
  | succ g ih =>
    intro k h1 o5 o6 hk e
    have q : nI k ≤ nI l := nI_le (by omega) (by omega)
    have es : zfo (bF τ s n (nI l)) (k + 1) (-1, 0) = bF τ s n (nI l) k (zfo (bF τ s n (nI l)) k (-1, 0)) := rfl
    have hV1 := zV_sc hc e hV
    have hT1 := zTC_sc hc e hT
    have ih' := fun h1 o5 o6 => ih (k + 1) h1 o5 o6 (by omega)
    rw [es] at ih'
    generalize zfo (bF τ s n (nI l)) k (-1, 0) = p at ih' ⊢
    rw [r50_18]
    simp only [↓r50_0, ↓r50_1, ↓r50_2, ↓r50_5, ↓r50_6, ↓r50_7, ↓r50_10, ↓r50_11, ↓r50_12, ↓r50_13, ↓r50_14, ↓r50_15, ↓r50_16, ↓r50_20, ↓r50_21, ↓r50_24, ↓r50_26, ↓r50_27, ↓r50_28, ↓r50_29, ↓r50_30, ↓r50_33, ↓r50_34, ↓r50_36, ↓r50_39, ↓r50_42, ↓r50_43, ↓r50_45, ↓r50_48, ↓r50_50, ↓r50_52, ↓r50_53, ↓r50_56, ↓r50_58, ↓r50_61, ↓r50_62, ↓r50_65, ↓r50_68, ↓r50_69, ↓r50_72, ↓r50_73, ↓r50_75, ↓r50_76, ↓r50_79, ↓r50_81, ↓r50_82, ↓r50_85, ↓r50_87, ↓r50_90, ↓r50_92, ↓r50_93, ↓r50_95, ↓r50_96, ↓r50_99, ↓r50_102, ↓r50_103, if_pos q]
    by_cases g1 : nI k &&& (nI l ^^^ -1) = 0
    · simp only [if_pos g1, zl_s1 hc, zs_s1 hc, zn_s1 hc, zl_s2 hc, zs_s2 hc, zn_s2 hc, zl_s3 hc, zs_s3 hc, zn_s3 hc, zl_s4 hc, zs_s4 hc, zn_s4 hc, zl_s5 hc, zs_s5 hc, zn_s5 hc, zl_s6 hc, zs_s6 hc, zn_s6 hc, zl_s7 hc, zs_s7 hc, zn_s7 hc, zc_s hc, true_and, Option.toList, List.cons_append, List.nil_append]
      refine c52 hc hV1 hB.1.1 hB.1.2 hT1 fun h2 e2 => ?_
      by_cases g2 : bMay τ s n (nI k)
      · rw [if_pos g2]
        simp (decide := true) only [↓r50_0, ↓r50_1, ↓r50_2, ↓r50_5, ↓r50_6, ↓r50_7, ↓r50_10, ↓r50_11, ↓r50_12, ↓r50_13, ↓r50_14, ↓r50_15, ↓r50_16, ↓r50_20, ↓r50_21, ↓r50_24, ↓r50_26, ↓r50_27, ↓r50_28, ↓r50_29, ↓r50_30, ↓r50_33, ↓r50_34, ↓r50_36, ↓r50_39, ↓r50_42, ↓r50_43, ↓r50_45, ↓r50_48, ↓r50_50, ↓r50_52, ↓r50_53, ↓r50_56, ↓r50_58, ↓r50_61, ↓r50_62, ↓r50_65, ↓r50_68, ↓r50_69, ↓r50_72, ↓r50_73, ↓r50_75, ↓r50_76, ↓r50_79, ↓r50_81, ↓r50_82, ↓r50_85, ↓r50_87, ↓r50_90, ↓r50_92, ↓r50_93, ↓r50_95, ↓r50_96, ↓r50_99, ↓r50_102, ↓r50_103, ↓reduceIte, Option.toList, List.cons_append, List.nil_append, zl_s1 hc, zs_s1 hc, zn_s1 hc, zl_s2 hc, zs_s2 hc, zn_s2 hc, zl_s3 hc, zs_s3 hc, zn_s3 hc, zl_s4 hc, zs_s4 hc, zn_s4 hc, zl_s5 hc, zs_s5 hc, zn_s5 hc, zl_s6 hc, zs_s6 hc, zn_s6 hc, zl_s7 hc, zs_s7 hc, zn_s7 hc, zc_s hc, true_and]
        refine c44 hc (zV_sc hc e2 hV1) hB (zTC_sc hc e2 hT1) fun h3 e3 => ?_
        have e13 : sc h h3 := sc_tr (sc_tr e e2) e3
        have eS : zfr (sPaidF τ s (nI k)) n 0 0 = bS τ s n (nI k) := rfl
        rw [eS]
        simp only [↓r50_0, ↓r50_1, ↓r50_2, ↓r50_5, ↓r50_6, ↓r50_7, ↓r50_10, ↓r50_11, ↓r50_12, ↓r50_13, ↓r50_14, ↓r50_15, ↓r50_16, ↓r50_20, ↓r50_21, ↓r50_24, ↓r50_26, ↓r50_27, ↓r50_28, ↓r50_29, ↓r50_30, ↓r50_33, ↓r50_34, ↓r50_36, ↓r50_39, ↓r50_42, ↓r50_43, ↓r50_45, ↓r50_48, ↓r50_50, ↓r50_52, ↓r50_53, ↓r50_56, ↓r50_58, ↓r50_61, ↓r50_62, ↓r50_65, ↓r50_68, ↓r50_69, ↓r50_72, ↓r50_73, ↓r50_75, ↓r50_76, ↓r50_79, ↓r50_81, ↓r50_82, ↓r50_85, ↓r50_87, ↓r50_90, ↓r50_92, ↓r50_93, ↓r50_95, ↓r50_96, ↓r50_99, ↓r50_102, ↓r50_103, Option.toList, List.cons_append, List.nil_append, c201, nI_1]
        have no : ∀ o5 o6, ¬ bMore τ s n (nI k) p → zR (d + 4) 50 Q 18 [some (.ref c), some (.int (nI l)), some (.int p.1), some (.int p.2), some (.int (nI (k + 1))), o5, o6] [] h3 := by
          intro o5 o6 z
          have := ih' h3 o5 o6 e13
          unfold bF at this
          rw [if_neg (fun y => z y.2)] at this
          exact this
        have yes : ∀ o5 o6, bMore τ s n (nI k) p → zR (d + 4) 50 Q 18 [some (.ref c), some (.int (nI l)), some (.int (nI k)), some (.int (bS τ s n (nI k))), some (.int (nI (k + 1))), o5, o6] [] h3 := by
          intro o5 o6 z
          have := ih' h3 o5 o6 e13
          unfold bF at this
          rw [if_pos ⟨⟨g1, g2⟩, z⟩] at this
          exact this
        by_cases p1 : bS τ s n (nI k) = p.2
        · simp only [if_pos p1]
          by_cases p2 : kBC (nI k) < kBC p.1
          · simp (decide := true) only [if_pos p2, ↓reduceIte]
            have := yes (some (.int (bS τ s n (nI k)))) (some (.int 1)) (Or.inr (Or.inr ⟨p1, p2⟩))
            by_cases p3 : p.1 < 0
            · simp only [if_pos p3]; exact this
            · simp only [if_neg p3]
              by_cases p4 : bS τ s n (nI k) ≤ p.2
              · simp only [if_pos p4]; exact this
              · simp only [if_neg p4]; exact this
          · simp (decide := true) only [if_neg p2, ↓reduceIte]
            by_cases p3 : p.1 < 0
            · simp only [if_pos p3]; exact yes _ _ (Or.inl p3)
            · simp only [if_neg p3]
              by_cases p4 : bS τ s n (nI k) ≤ p.2
              · simp only [if_pos p4]
                exact no _ _ (fun z => z.elim p3 (fun z => z.elim (fun y => y p4) (fun y => p2 y.2)))
              · simp only [if_neg p4]; exact yes _ _ (Or.inr (Or.inl p4))
        · simp (decide := true) only [if_neg p1, ↓reduceIte]
          by_cases p3 : p.1 < 0
          · simp only [if_pos p3]; exact yes _ _ (Or.inl p3)
          · simp only [if_neg p3]
            by_cases p4 : bS τ s n (nI k) ≤ p.2
            · simp only [if_pos p4]
              exact no _ _ (fun z => z.elim p3 (fun z => z.elim (fun y => y p4) (fun y => p1 y.1)))
            · simp only [if_neg p4]; exact yes _ _ (Or.inr (Or.inl p4))
      · rw [if_neg g2]
        simp (decide := true) only [↓r50_0, ↓r50_1, ↓r50_2, ↓r50_5, ↓r50_6, ↓r50_7, ↓r50_10, ↓r50_11, ↓r50_12, ↓r50_13, ↓r50_14, ↓r50_15, ↓r50_16, ↓r50_20, ↓r50_21, ↓r50_24, ↓r50_26, ↓r50_27, ↓r50_28, ↓r50_29, ↓r50_30, ↓r50_33, ↓r50_34, ↓r50_36, ↓r50_39, ↓r50_42, ↓r50_43, ↓r50_45, ↓r50_48, ↓r50_50, ↓r50_52, ↓r50_53, ↓r50_56, ↓r50_58, ↓r50_61, ↓r50_62, ↓r50_65, ↓r50_68, ↓r50_69, ↓r50_72, ↓r50_73, ↓r50_75, ↓r50_76, ↓r50_79, ↓r50_81, ↓r50_82, ↓r50_85, ↓r50_87, ↓r50_90, ↓r50_92, ↓r50_93, ↓r50_95, ↓r50_96, ↓r50_99, ↓r50_102, ↓r50_103, ↓reduceIte, Option.toList, List.cons_append, List.nil_append, nI_1]
        have := ih' h2 o5 o6 (sc_tr e e2)
        unfold bF at this
        rw [if_neg (fun y => g2 y.1.2)] at this
        exact this
    · simp only [if_neg g1, nI_1]
      have := ih' h1 o5 o6 e
      unfold bF at this
      rw [if_neg (fun y => g1 y.1.1)] at this
      exact this
theorem c50 (hc : zst c) (hV : zV h c s) (hB : zB s n m) (hT : zTC h c τ) {l : Nat} (hl : l < 1024) (hH : bH s n = nI l) (hQ : ∀ h1, sc h h1 → Q (some (.int (zfo (bF τ s n (nI l)) (l + 1) (-1, 0)).1)) h1) : zM (d + 5) 50 [.ref c] h Q := by
  have u0 : h (c + 6) 0 = s 6 := hV.2.1.1
  rw [m50]
  simp only [↓r50_0, ↓r50_1, ↓r50_2, ↓r50_5, ↓r50_6, ↓r50_7, ↓r50_10, ↓r50_11, ↓r50_12, ↓r50_13, ↓r50_14, ↓r50_15, ↓r50_16, ↓r50_20, ↓r50_21, ↓r50_24, ↓r50_26, ↓r50_27, ↓r50_28, ↓r50_29, ↓r50_30, ↓r50_33, ↓r50_34, ↓r50_36, ↓r50_39, ↓r50_42, ↓r50_43, ↓r50_45, ↓r50_48, ↓r50_50, ↓r50_52, ↓r50_53, ↓r50_56, ↓r50_58, ↓r50_61, ↓r50_62, ↓r50_65, ↓r50_68, ↓r50_69, ↓r50_72, ↓r50_73, ↓r50_75, ↓r50_76, ↓r50_79, ↓r50_81, ↓r50_82, ↓r50_85, ↓r50_87, ↓r50_90, ↓r50_92, ↓r50_93, ↓r50_95, ↓r50_96, ↓r50_99, ↓r50_102, ↓r50_103, zl_s1 hc, zs_s1 hc, zn_s1 hc, zl_s2 hc, zs_s2 hc, zn_s2 hc, zl_s3 hc, zs_s3 hc, zn_s3 hc, zl_s4 hc, zs_s4 hc, zn_s4 hc, zl_s5 hc, zs_s5 hc, zn_s5 hc, zl_s6 hc, zs_s6 hc, zn_s6 hc, zl_s7 hc, zs_s7 hc, zn_s7 hc, zc_s hc, true_and, zoks, zixs, u0, c51 hc hV hB.1.1 hB.1.2, hH, Option.toList, List.cons_append, List.nil_append]
  have := c50_loop (d := d) hc hV hB hT hl hQ (l + 1) 0 h none none (by omega) (sc_rf h)
  rw [← nI_0]
  exact this
end
