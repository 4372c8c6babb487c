/-! texts as they are worked out -/
def jC (s x y : Int32) : Int32 := if s = 38 then (if x = 0 then 0 else if y = 0 then 0 else 1) else if s = 42 then x * y else if s = 43 then x + y else if s = 45 then x - y else if s = 47 then (if y = 0 then 0 else x / y) else if s = 60 then (if x < y then 1 else 0) else if s = 61 then (if x = y then 1 else 0) else if s = 62 then (if x ≤ y then 0 else 1) else if s = 124 then (if x = 0 then (if y = 0 then 0 else 1) else 1) else 0
def wVal (a b c w : Int32) : Int32 := if w < 0 then (if w = -1 then a else if w = -2 then b else c) else w
def evC (a b c w : Int32) (s : Nat × (Nat → Int32)) : Nat × (Nat → Int32) :=
  if w < -3 then (if w = -33 then (if s.1 < 1 then s else (s.1, upd s.2 (s.1 - 1) (if s.2 (s.1 - 1) = 0 then 1 else 0))) else (if s.1 < 2 then s else (s.1 - 1, upd s.2 (s.1 - 2) (jC (-w) (s.2 (s.1 - 2)) (s.2 (s.1 - 1))))))
  else (if s.1 < 96 then (s.1 + 1, upd s.2 s.1 (wVal a b c w)) else s)
def vTop (r : Nat × (Nat → Int32)) : Int32 := if r.1 < 1 then 0 else r.2 (r.1 - 1)
/-- what m words give -/
def vC (w : Nat → Int32) (m : Nat) (a b c : Int32) : Int32 := vTop (zfo (fun i => evC a b c (w i)) m (0, fun _ => 0))
section
variable {d : Nat} {Q : Option Value → zH → Prop} {h : zH} {x x0 x1 x2 x3 x4 : Int32} {c n k : Nat}
theorem zhr_ap (h : zH) (c c' : Nat) (r : Nat → Int32) : zhr h c r c' = if c' = c then r else h c' := rfl
theorem zup_ap (f : Nat → Int32) (k j : Nat) (v : Int32) : upd f k v j = if j = k then v else f j := rfl
theorem zhr_self (h : zH) (c : Nat) : zhr h c (h c) = h := by
  funext c'
  rw [zhr_ap]
  split
  · rename_i e; rw [e]
  · rfl
theorem zhr_zhr (h : zH) (c : Nat) (r r' : Nat → Int32) : zhr (zhr h c r) c r' = zhr h c r' := by
  funext c'
  simp only [zhr_ap]
  split <;> rfl
theorem c8 : zM (d + 1) 8 [.int x0, .int x1, .int x2] h Q = Q (some (.int (jC x0 x1 x2))) h := by
  rw [m8]
  by_cases hz : x2 = 0
  · subst hz
    simp only [↓r8_0, ↓r8_1, ↓r8_84, ↓r8_85, ↓r8_88, ↓r8_89, ↓r8_92, ↓r8_93, ↓r8_96, ↓r8_97, ↓r8_98, ↓r8_99, ↓r8_102, ↓r8_103, ↓r8_106, ↓r8_107, ↓r8_110, ↓r8_111, ↓r8_112, ↓r8_113, ↓r8_114, ↓r8_117, ↓r8_118, ↓r8_121, ↓r8_122, ↓r8_123, ↓r8_124, ↓r8_125, ↓r8_128, ↓r8_129, ↓r8_132, ↓r8_133, ↓r8_134, ↓r8_135, ↓r8_136, ↓r8_139, ↓r8_140, ↓r8_143, ↓r8_144, ↓r8_145, ↓r8_146, ↓r8_147, ↓r8_148, ↓r8_149, ↓r8_150, ↓r8_151, ↓r8_152, ↓r8_153, ↓r8_154, ↓r8_155, ↓r8_156, ↓r8_157, ↓r8_158, ↓r8_161, ↓r8_162, ↓r8_165, ↓r8_166, ↓r8_167, ↓r8_168, ↓r8_169, ↓r8_170, jC, zq_ite Q, if_true]
  · simp only [↓r8_0, ↓r8_1, ↓r8_84, ↓r8_85, ↓r8_88, ↓r8_89, ↓r8_92, ↓r8_93, ↓r8_96, ↓r8_97, ↓r8_98, ↓r8_99, ↓r8_102, ↓r8_103, ↓r8_106, ↓r8_107, ↓r8_110, ↓r8_111, ↓r8_112, ↓r8_113, ↓r8_114, ↓r8_117, ↓r8_118, ↓r8_121, ↓r8_122, ↓r8_123, ↓r8_124, ↓r8_125, ↓r8_128, ↓r8_129, ↓r8_132, ↓r8_133, ↓r8_134, ↓r8_135, ↓r8_136, ↓r8_139, ↓r8_140, ↓r8_143, ↓r8_144, ↓r8_145, ↓r8_146, ↓r8_147, ↓r8_148, ↓r8_149, ↓r8_150, ↓r8_151, ↓r8_152, ↓r8_153, ↓r8_154, ↓r8_155, ↓r8_156, ↓r8_157, ↓r8_158, ↓r8_161, ↓r8_162, ↓r8_165, ↓r8_166, ↓r8_167, ↓r8_168, ↓r8_169, ↓r8_170, jC, zq_ite Q, hz, not_false_eq_true, true_and, if_false]
/-- the parts of a state that don't lie above its top -/
def evEq (s t : Nat × (Nat → Int32)) : Prop := s.1 = t.1 ∧ ∀ i, i < s.1 → s.2 i = t.2 i
theorem evC_eq {a b c w : Int32} {s t : Nat × (Nat → Int32)} (h : evEq s t) : evEq (evC a b c w s) (evC a b c w t) := by
  obtain ⟨n, f⟩ := s
  obtain ⟨n', g⟩ := t
  obtain ⟨h1, h2⟩ := h
  simp only at h1 h2
  subst h1
  unfold evC
  simp only
  split
  · split
    · split
      · exact ⟨rfl, h2⟩
      · refine ⟨rfl, fun i hi => ?_⟩
        simp only at hi
        simp only [zup_ap, h2 (n - 1) (by omega)]
        split
        · rfl
        · exact h2 i hi
    · split
      · exact ⟨rfl, h2⟩
      · refine ⟨rfl, fun i hi => ?_⟩
        simp only at hi
        simp only [zup_ap, h2 (n - 1) (by omega), h2 (n - 2) (by omega)]
        split
        · rfl
        · exact h2 i (by omega)
  · split
    · refine ⟨rfl, fun i hi => ?_⟩
      simp only at hi
      simp only [zup_ap]
      split
      · rfl
      · exact h2 i (by omega)
    · exact ⟨rfl, h2⟩
theorem ev_eq {a b c : Int32} {w : Nat → Int32} {s t : Nat × (Nat → Int32)} (h : evEq s t) : ∀ m, evEq (zfo (fun i => evC a b c (w i)) m s) (zfo (fun i => evC a b c (w i)) m t)
  | 0 => h
  | m + 1 => evC_eq (ev_eq h m)
theorem vTop_eq {s t : Nat × (Nat → Int32)} (h : evEq s t) : vTop s = vTop t := by
  unfold vTop
  rw [← h.1]
  split
  · rfl
  · exact h.2 _ (by omega)
theorem vC_any (w : Nat → Int32) (m : Nat) (a b c : Int32) (st : Nat → Int32) : vTop (zfo (fun i => evC a b c (w i)) m (0, st)) = vC w m a b c := vTop_eq (ev_eq (s := (0, st)) (t := (0, fun _ => 0)) ⟨rfl, fun i hi => absurd hi (Nat.not_lt_zero i)⟩ m)
theorem nI_s1 {k : Nat} (h : 1 ≤ k) : nI k - 1 = nI (k - 1) := by
  rw [show (1 : Int32) = nI 1 from rfl, pk_sub h]
theorem nI_m1 {k : Nat} (h : 1 ≤ k) : nI k + -1 = nI (k - 1) := sb_m1 h
theorem nI_ltk {a b : Nat} (ha : a < 2 ^ 31) (hb : b < 2 ^ 31) : (nI a < nI b) = (a < b) := propext (nI_ltI ha hb)
theorem evTop {a b c w : Int32} {s : Nat × (Nat → Int32)} {i : Nat} (h : s.1 ≤ i) : (evC a b c w s).1 ≤ i + 1 := by
  unfold evC
  split
  · split
    · split
      · omega
      · exact Nat.le_succ_of_le h
    · split
      · omega
      · show s.1 - 1 ≤ i + 1
        omega
  · split
    · exact Nat.succ_le_succ h
    · omega
set_option maxHeartbeats 4000000 in
theorem c7 {t m : Nat} (ht : t < 14) (hm : m ≤ 96) (hsz : h 4 t = nI m) {a b c0 : Int32} (hQ : ∀ st' : Nat → Int32, Q (some (.int (vC (fun i => h 5 (96 * t + i)) m a b c0))) (zhr h 6 st')) : zM (d + 2) 7 [.ref 1, .int (nI t), .int a, .int b, .int c0] h Q := by
  rw [m7]
  have e13 : nI t ≤ 13 := by rw [show (13 : Int32) = nI 13 from rfl]; exact nI_le (by omega) (by omega)
  simp only [↓r7_0, ↓r7_1, ↓r7_2, ↓r7_4, ↓r7_7, ↓r7_10, ↓r7_11, ↓r7_12, ↓r7_13, ↓r7_15, ↓r7_16, ↓r7_20, ↓r7_21, ↓r7_24, ↓r7_25, ↓r7_26, ↓r7_29, ↓r7_31, ↓r7_33, ↓r7_36, ↓r7_37, ↓r7_40, ↓r7_41, ↓r7_43, ↓r7_44, ↓r7_46, ↓r7_47, ↓r7_48, ↓r7_50, ↓r7_52, ↓r7_54, ↓r7_57, ↓r7_59, ↓r7_61, ↓r7_64, ↓r7_65, ↓r7_68, ↓r7_70, ↓r7_72, ↓r7_75, ↓r7_77, ↓r7_80, ↓r7_82, ↓r7_83, ↓r7_86, ↓r7_87, ↓r7_90, ↓r7_92, ↓r7_94, ↓r7_97, ↓r7_98, ↓r7_101, ↓r7_103, ↓r7_104, ↓r7_107, ↓r7_110, ↓r7_112, ↓r7_114, ↓r7_117, ↓r7_119, ↓r7_120, ↓r7_123, ↓r7_124, ↓r7_127, ↓r7_129, ↓r7_130, ↓r7_131, ↓r7_132, ↓r7_135, ↓r7_137, ↓r7_138, ↓r7_139, ↓r7_140, ↓r7_143, ↓r7_144, ↓r7_147, ↓r7_148, ↓r7_149, ↓r7_152, ↓r7_154, ↓r7_155, ↓r7_158, ↓r7_161, ↓r7_162, ↓r7_165, ↓r7_167, ↓r7_168, ↓r7_169, ↓r7_171, ↓r7_172, ↓r7_173, ↓r7_176, ↓r7_178, ↓r7_179, ↓r7_180, ↓r7_181, ↓r7_182, ↓r7_185, ↓r7_187, ↓r7_188, ↓r7_191, ↓r7_192, ↓r7_195, ↓r7_198, ↓r7_200, ↓r7_201, ↓r7_204, ↓r7_205, ↓r7_208, ↓r7_210, ↓r7_211, ↓r7_212, ↓r7_213, ↓r7_216, ↓r7_217, c103, nI_pos' (by omega : t < 2 ^ 31), e13, and_self, if_true, Option.toList, List.cons_append, List.nil_append]
  rw [if_neg (by decide)]
  have hs : ∀ (i : Nat) (s : (Nat × (Nat → Int32)) × Option Value), i < m → s.1.1 ≤ i → (zR (d + 1) 7 Q 18 [some (.ref 1), some (.int (nI t)), some (.int a), some (.int b), some (.int c0), some (.int (nI s.1.1)), some (.int (nI i)), s.2] [] (zhr h 6 s.1.2) = zR (d + 1) 7 Q 18 [some (.ref 1), some (.int (nI t)), some (.int a), some (.int b), some (.int c0), some (.int (nI (evC a b c0 (h 5 (96 * t + i)) s.1).1)), some (.int (nI (i + 1))), some (.int (h 5 (96 * t + i)))] [] (zhr h 6 (evC a b c0 (h 5 (96 * t + i)) s.1).2)) ∧ (evC a b c0 (h 5 (96 * t + i)) s.1).1 ≤ i + 1 := by
    intro i s hi hI
    obtain ⟨⟨top, st⟩, o7⟩ := s
    simp only at hI
    refine ⟨?_, evTop hI⟩
    have e1 : nI t * 96 + nI i = nI (96 * t + i) := by rw [show (96 : Int32) = nI 96 from rfl, pk_mul, nI_add, Nat.mul_comm]
    have e2 : (nI i < 96) = True := by rw [show (96 : Int32) = nI 96 from rfl, nI_ltk (by omega) (by omega)]; simp; omega
    have e3 : (nI top < 96) = (top < 96) := by rw [show (96 : Int32) = nI 96 from rfl, nI_ltk (by omega) (by omega)]
    have e4 : (nI top < 1) = (top < 1) := by rw [show (1 : Int32) = nI 1 from rfl, nI_ltk (by omega) (by omega)]
    have e5 : (nI top < 2) = (top < 2) := by rw [show (2 : Int32) = nI 2 from rfl, nI_ltk (by omega) (by omega)]
    rw [r7_18]
    generalize hw : h 5 (96 * t + i) = w
    simp only [↓r7_0, ↓r7_1, ↓r7_2, ↓r7_4, ↓r7_7, ↓r7_10, ↓r7_11, ↓r7_12, ↓r7_13, ↓r7_15, ↓r7_16, ↓r7_20, ↓r7_21, ↓r7_24, ↓r7_25, ↓r7_26, ↓r7_29, ↓r7_31, ↓r7_33, ↓r7_36, ↓r7_37, ↓r7_40, ↓r7_41, ↓r7_43, ↓r7_44, ↓r7_46, ↓r7_47, ↓r7_48, ↓r7_50, ↓r7_52, ↓r7_54, ↓r7_57, ↓r7_59, ↓r7_61, ↓r7_64, ↓r7_65, ↓r7_68, ↓r7_70, ↓r7_72, ↓r7_75, ↓r7_77, ↓r7_80, ↓r7_82, ↓r7_83, ↓r7_86, ↓r7_87, ↓r7_90, ↓r7_92, ↓r7_94, ↓r7_97, ↓r7_98, ↓r7_101, ↓r7_103, ↓r7_104, ↓r7_107, ↓r7_110, ↓r7_112, ↓r7_114, ↓r7_117, ↓r7_119, ↓r7_120, ↓r7_123, ↓r7_124, ↓r7_127, ↓r7_129, ↓r7_130, ↓r7_131, ↓r7_132, ↓r7_135, ↓r7_137, ↓r7_138, ↓r7_139, ↓r7_140, ↓r7_143, ↓r7_144, ↓r7_147, ↓r7_148, ↓r7_149, ↓r7_152, ↓r7_154, ↓r7_155, ↓r7_158, ↓r7_161, ↓r7_162, ↓r7_165, ↓r7_167, ↓r7_168, ↓r7_169, ↓r7_171, ↓r7_172, ↓r7_173, ↓r7_176, ↓r7_178, ↓r7_179, ↓r7_180, ↓r7_181, ↓r7_182, ↓r7_185, ↓r7_187, ↓r7_188, ↓r7_191, ↓r7_192, ↓r7_195, ↓r7_198, ↓r7_200, ↓r7_201, ↓r7_204, ↓r7_205, ↓r7_208, ↓r7_210, ↓r7_211, ↓r7_212, ↓r7_213, ↓r7_216, ↓r7_217, zl_4, zl_5, zl_6, zs_6, zhr_ap, Nat.reduceEqDiff, if_true, if_false, zok_nI ht (by omega), zix_nI (by omega : t < 2 ^ 31), hsz, nI_lt hi (by omega : m < 2 ^ 31), true_and, e1, e2, e3, e4, e5, zok_nI (by omega : 96 * t + i < 1344) (by omega), zix_nI (by omega : 96 * t + i < 2 ^ 31), hw, nI_1, zhr_zhr, c8, Option.toList, List.cons_append, List.nil_append]
    by_cases g1 : w < -3
    · by_cases g2 : w = -33
      · by_cases g3 : top < 1
        · simp only [evC, if_pos g1, if_pos g2, if_pos g3]
        · have f1 := zok_nI (k := top - 1) (n := 96) (by omega) (by omega)
          have f2 := zix_nI (k := top - 1) (by omega)
          simp only [evC, if_pos g1, if_pos g2, if_neg g3, nI_s1 (by omega : 1 ≤ top), f1, f2, true_and]
          by_cases g4 : st (top - 1) = 0
          · simp only [if_pos g4]
          · simp only [if_neg g4]
      · by_cases g3 : top < 2
        · simp only [evC, if_pos g1, if_neg g2, if_pos g3]
        · have f1 := zok_nI (k := top - 1) (n := 96) (by omega) (by omega)
          have f2 := zix_nI (k := top - 1) (by omega)
          have f3 := zok_nI (k := top - 1 - 1) (n := 96) (by omega) (by omega)
          have f4 := zix_nI (k := top - 1 - 1) (by omega)
          simp only [evC, if_pos g1, if_neg g2, if_neg g3, nI_m1 (by omega : 1 ≤ top), nI_s1 (by omega : 1 ≤ top - 1), f1, f2, f3, f4, true_and]
          rfl
    · by_cases g3 : top < 96
      · have f1 := zok_nI (k := top) (n := 96) (by omega) (by omega)
        have f2 := zix_nI (k := top) (by omega)
        simp only [evC, if_neg g1, if_pos g3, f1, f2, true_and, wVal]
        by_cases g4 : w < 0
        · by_cases g5 : w = -1
          · simp only [if_pos g4, if_pos g5]
          · by_cases g6 : w = -2
            · simp only [if_pos g4, if_neg g5, if_pos g6]
            · simp only [if_pos g4, if_neg g5, if_neg g6]
        · simp only [if_neg g4]
      · simp only [evC, if_neg g1, if_neg g3]
  have := zloopI (fun i (s : (Nat × (Nat → Int32)) × Option Value) => zR (d + 1) 7 Q 18 [some (.ref 1), some (.int (nI t)), some (.int a), some (.int b), some (.int c0), some (.int (nI s.1.1)), some (.int (nI i)), s.2] [] (zhr h 6 s.1.2)) (fun i s => s.1.1 ≤ i) (fun i s => (evC a b c0 (h 5 (96 * t + i)) s.1, some (.int (h 5 (96 * t + i))))) m hs ((0, h 6), none) (Nat.le_refl 0)
  obtain ⟨hW, hI⟩ := this
  simp only [nI_0, zhr_self] at hW
  rw [hW]
  have hfst : ∀ j, (zfo (fun i (s : (Nat × (Nat → Int32)) × Option Value) => (evC a b c0 (h 5 (96 * t + i)) s.1, some (Value.int (h 5 (96 * t + i))))) j ((0, h 6), none)).1 = zfo (fun i => evC a b c0 (h 5 (96 * t + i))) j (0, h 6) := by
    intro j
    induction j with
    | zero => rfl
    | succ j ih => simp only [zfo, ih]
  rw [hfst] at hI ⊢
  have hv := vC_any (fun i => h 5 (96 * t + i)) m a b c0 (h 6)
  have hQ' := hQ (zfo (fun i => evC a b c0 (h 5 (96 * t + i))) m (0, h 6)).2
  rw [← hv] at hQ'
  unfold vTop at hQ'
  generalize zfo (fun i => evC a b c0 (h 5 (96 * t + i))) m (0, h 6) = r at hI hQ' ⊢
  obtain ⟨top, st⟩ := r
  simp only at hI hQ' ⊢
  have e4 : (nI top < 1) = (top < 1) := by rw [show (1 : Int32) = nI 1 from rfl, nI_ltk (by omega) (by omega)]
  rw [r7_18]
  simp only [↓r7_0, ↓r7_1, ↓r7_2, ↓r7_4, ↓r7_7, ↓r7_10, ↓r7_11, ↓r7_12, ↓r7_13, ↓r7_15, ↓r7_16, ↓r7_20, ↓r7_21, ↓r7_24, ↓r7_25, ↓r7_26, ↓r7_29, ↓r7_31, ↓r7_33, ↓r7_36, ↓r7_37, ↓r7_40, ↓r7_41, ↓r7_43, ↓r7_44, ↓r7_46, ↓r7_47, ↓r7_48, ↓r7_50, ↓r7_52, ↓r7_54, ↓r7_57, ↓r7_59, ↓r7_61, ↓r7_64, ↓r7_65, ↓r7_68, ↓r7_70, ↓r7_72, ↓r7_75, ↓r7_77, ↓r7_80, ↓r7_82, ↓r7_83, ↓r7_86, ↓r7_87, ↓r7_90, ↓r7_92, ↓r7_94, ↓r7_97, ↓r7_98, ↓r7_101, ↓r7_103, ↓r7_104, ↓r7_107, ↓r7_110, ↓r7_112, ↓r7_114, ↓r7_117, ↓r7_119, ↓r7_120, ↓r7_123, ↓r7_124, ↓r7_127, ↓r7_129, ↓r7_130, ↓r7_131, ↓r7_132, ↓r7_135, ↓r7_137, ↓r7_138, ↓r7_139, ↓r7_140, ↓r7_143, ↓r7_144, ↓r7_147, ↓r7_148, ↓r7_149, ↓r7_152, ↓r7_154, ↓r7_155, ↓r7_158, ↓r7_161, ↓r7_162, ↓r7_165, ↓r7_167, ↓r7_168, ↓r7_169, ↓r7_171, ↓r7_172, ↓r7_173, ↓r7_176, ↓r7_178, ↓r7_179, ↓r7_180, ↓r7_181, ↓r7_182, ↓r7_185, ↓r7_187, ↓r7_188, ↓r7_191, ↓r7_192, ↓r7_195, ↓r7_198, ↓r7_200, ↓r7_201, ↓r7_204, ↓r7_205, ↓r7_208, ↓r7_210, ↓r7_211, ↓r7_212, ↓r7_213, ↓r7_216, ↓r7_217, zl_4, zl_5, zl_6, zs_6, zhr_ap, Nat.reduceEqDiff, if_true, if_false, zok_nI ht (by omega), zix_nI (by omega : t < 2 ^ 31), hsz, nI_nlt (Nat.le_refl m) (by omega), true_and, e4]
  by_cases g : top < 1
  · simp only [g, if_true] at hQ' ⊢
    exact hQ'
  · have f1 := zok_nI (k := top - 1) (n := 96) (by omega) (by omega)
    have f2 := zix_nI (k := top - 1) (by omega)
    simp only [g, if_false, nI_s1 (by omega : 1 ≤ top), f1, f2, true_and] at hQ' ⊢
    exact hQ'
end
