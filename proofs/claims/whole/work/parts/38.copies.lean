/-! States and rows copied whole -/
section
variable {d : Nat} {Q : Option Value → zH → Prop} {h h' : zH} {x0 : Int32} {c b n k m f : Nat} {τ : zTau} {s : Nat → Int32}
theorem zcp {a b N n : Nat} {x : Int32} (ha : zcls a = 10) (hb : zcls b = 10) (ea : zaln a = N) (eb : zaln b = N) (hx : ¬ x < 0) (hn : zix x = n) (hN : n ≤ N) : zM (d + 1) 1003 [.ref a, .int 0, .ref b, .int 0, .int x] h Q = Q none (zhr h b (va_cpy (h a) (h b) 0 0 n)) := by
  rw [m1003]
  subst hn
  exact zand_t ⟨ha, hb, by decide, by decide, hx, by rw [ea]; show 0 + zix x ≤ N; omega, by rw [eb]; show 0 + zix x ≤ N; omega⟩
theorem zcp1 (hc : zst c) (hb : zst b) : zM (d + 1) 1003 [.ref (b + 1), .int 0, .ref (c + 1), .int 0, .int 10] h Q = Q none (zhr h (c + 1) (va_cpy (h (b + 1)) (h (c + 1)) 0 0 10)) := zcp (zc_s1 hb) (zc_s1 hc) (zaln_s1 hb) (zaln_s1 hc) (by decide) (by decide) (Nat.le_refl _)
theorem zcp2 (hc : zst c) (hb : zst b) : zM (d + 1) 1003 [.ref (b + 2), .int 0, .ref (c + 2), .int 0, .int 10] h Q = Q none (zhr h (c + 2) (va_cpy (h (b + 2)) (h (c + 2)) 0 0 10)) := zcp (zc_s2 hb) (zc_s2 hc) (zaln_s2 hb) (zaln_s2 hc) (by decide) (by decide) (Nat.le_refl _)
theorem zcp3 (hc : zst c) (hb : zst b) : zM (d + 1) 1003 [.ref (b + 3), .int 0, .ref (c + 3), .int 0, .int 10] h Q = Q none (zhr h (c + 3) (va_cpy (h (b + 3)) (h (c + 3)) 0 0 10)) := zcp (zc_s3 hb) (zc_s3 hc) (zaln_s3 hb) (zaln_s3 hc) (by decide) (by decide) (Nat.le_refl _)
theorem zcp4 (hc : zst c) (hb : zst b) : zM (d + 1) 1003 [.ref (b + 4), .int 0, .ref (c + 4), .int 0, .int 10] h Q = Q none (zhr h (c + 4) (va_cpy (h (b + 4)) (h (c + 4)) 0 0 10)) := zcp (zc_s4 hb) (zc_s4 hc) (zaln_s4 hb) (zaln_s4 hc) (by decide) (by decide) (Nat.le_refl _)
theorem zcp5 (hc : zst c) (hb : zst b) : zM (d + 1) 1003 [.ref (b + 5), .int 0, .ref (c + 5), .int 0, .int 10] h Q = Q none (zhr h (c + 5) (va_cpy (h (b + 5)) (h (c + 5)) 0 0 10)) := zcp (zc_s5 hb) (zc_s5 hc) (zaln_s5 hb) (zaln_s5 hc) (by decide) (by decide) (Nat.le_refl _)
theorem zcp6 (hc : zst c) (hb : zst b) : zM (d + 1) 1003 [.ref (b + 6), .int 0, .ref (c + 6), .int 0, .int 6] h Q = Q none (zhr h (c + 6) (va_cpy (h (b + 6)) (h (c + 6)) 0 0 6)) := zcp (zc_s6 hb) (zc_s6 hc) (zaln_s6 hb) (zaln_s6 hc) (by decide) (by decide) (Nat.le_refl _)
theorem zcp7 (hc : zst c) (hb : zst b) : zM (d + 1) 1003 [.ref (b + 7), .int 0, .ref (c + 7), .int 0, .int 3] h Q = Q none (zhr h (c + 7) (va_cpy (h (b + 7)) (h (c + 7)) 0 0 3)) := zcp (zc_s7 hb) (zc_s7 hc) (zaln_s7 hb) (zaln_s7 hc) (by decide) (by decide) (Nat.le_refl _)
/-- two States that show the same, texts that count and all -/
def zSame (h h' : zH) (c b : Nat) : Prop := (h' c 1 = h b 1 ∧ h' c 8 = h b 8 ∧ h' c 9 = h b 9 ∧ h' c 10 = h b 10 ∧ h' c 11 = h b 11 ∧ h' c 12 = h b 12 ∧ h' c 14 = h b 14) ∧ (∀ k, k < 6 → h' (c + 6) k = h (b + 6) k) ∧ (∀ k, k < 3 → h' (c + 7) k = h (b + 7) k) ∧ ∀ k, k < 10 → h' (c + 1) k = h (b + 1) k ∧ h' (c + 2) k = h (b + 2) k ∧ h' (c + 3) k = h (b + 3) k ∧ h' (c + 4) k = h (b + 4) k ∧ h' (c + 5) k = h (b + 5) k
theorem zV_same (e : zSame h h' c b) (hV : zV h b s) : zV h' c s := by
  obtain ⟨⟨v0, v1, v2, v3, v4, v5⟩, ⟨u0, u1, u2, u3, u4, u5⟩, hl⟩ := hV
  obtain ⟨⟨e1, e2, e3, e4, e5, e6, e7⟩, er, -, el⟩ := e
  refine ⟨⟨e1.trans v0, e6.trans v1, e4.trans v2, e2.trans v3, e3.trans v4, e5.trans v5⟩, ⟨(er 0 (by omega)).trans u0, (er 1 (by omega)).trans u1, (er 2 (by omega)).trans u2, (er 3 (by omega)).trans u3, (er 4 (by omega)).trans u4, (er 5 (by omega)).trans u5⟩, fun l hl' => ?_⟩
  obtain ⟨l0, l1, l2, l3, l4⟩ := hl l hl'
  obtain ⟨k0, k1, k2, k3, k4⟩ := el l hl'
  exact ⟨k0.trans l0, k1.trans l1, k2.trans l2, k3.trans l3, k4.trans l4⟩
theorem zTC_same (e : zSame h h' c b) (e4 : h' 4 = h 4) (e5 : h' 5 = h 5) (hT : zTC h b τ) : zTC h' c τ := by
  intro key hk
  rw [e.2.2.1 key hk, e4, e5]
  exact hT key hk
/-- what 'become' changes -/
def sb (c : Nat) (h h' : zH) : Prop := ∀ c', ¬ (c ≤ c' ∧ c' ≤ c + 7) → h' c' = h c'
set_option maxHeartbeats 4000000 in
theorem c36 (hc : zst c) (hb : zst b) (hne : c ≠ b) (hQ : ∀ h', sb c h h' → zSame h h' c b → Q none h') : zM (d + 2) 36 [.ref c, .ref b] h Q := by
  rw [m36]
  simp only [↓r36_0, ↓r36_1, ↓r36_2, ↓r36_5, ↓r36_8, ↓r36_9, ↓r36_12, ↓r36_13, ↓r36_14, ↓r36_17, ↓r36_18, ↓r36_20, ↓r36_23, ↓r36_24, ↓r36_27, ↓r36_28, ↓r36_29, ↓r36_32, ↓r36_33, ↓r36_35, ↓r36_38, ↓r36_39, ↓r36_42, ↓r36_43, ↓r36_44, ↓r36_47, ↓r36_48, ↓r36_50, ↓r36_53, ↓r36_54, ↓r36_57, ↓r36_58, ↓r36_59, ↓r36_62, ↓r36_63, ↓r36_65, ↓r36_68, ↓r36_69, ↓r36_72, ↓r36_73, ↓r36_74, ↓r36_77, ↓r36_78, ↓r36_80, ↓r36_83, ↓r36_84, ↓r36_87, ↓r36_88, ↓r36_89, ↓r36_92, ↓r36_93, ↓r36_95, ↓r36_98, ↓r36_99, ↓r36_102, ↓r36_103, ↓r36_104, ↓r36_107, ↓r36_108, ↓r36_109, ↓r36_112, ↓r36_113, ↓r36_114, ↓r36_117, ↓r36_120, ↓r36_121, ↓r36_122, ↓r36_125, ↓r36_128, ↓r36_129, ↓r36_130, ↓r36_133, ↓r36_136, ↓r36_137, ↓r36_138, ↓r36_141, ↓r36_144, ↓r36_145, ↓r36_146, ↓r36_149, ↓r36_152, ↓r36_153, ↓r36_154, ↓r36_157, ↓r36_160, zl_s1 hc, zs_s1 hc, zn_s1 hc, zl_s2 hc, zs_s2 hc, zn_s2 hc, zl_s3 hc, zs_s3 hc, zn_s3 hc, zl_s4 hc, zs_s4 hc, zn_s4 hc, zl_s5 hc, zs_s5 hc, zn_s5 hc, zl_s6 hc, zs_s6 hc, zn_s6 hc, zl_s7 hc, zs_s7 hc, zn_s7 hc, zc_s hc, true_and, zc_s hb, zcp1 hc hb, zcp2 hc hb, zcp3 hc hb, zcp4 hc hb, zcp5 hc hb, zcp6 hc hb, zcp7 hc hb, Option.toList, List.cons_append, List.nil_append]
  refine hQ _ ?_ ?_
  · intro c' hc'
    simp only [zhr_ap]
    rw [if_neg (by omega), if_neg (by omega), if_neg (by omega), if_neg (by omega), if_neg (by omega), if_neg (by omega), if_neg (by omega), if_neg (by omega), if_neg (by omega), if_neg (by omega), if_neg (by omega), if_neg (by omega), if_neg (by omega), if_neg (by omega)]
  · have hcp : ∀ (f g : Nat → Int32) (n k : Nat), k < n → va_cpy f g 0 0 n k = f k := fun f g n k hk => by rw [pk_cpy_in (by omega) (by omega)]; congr 1; omega
    rcases hc with rfl | rfl | rfl <;> rcases hb with rfl | rfl | rfl <;> first | exact absurd rfl hne | (refine ⟨?_, fun k hk => ?_, fun k hk => ?_, fun k hk => ?_⟩ <;> first | simp [zhr_ap, zup_ap, hcp, hk] | simp [zhr_ap, zup_ap])
theorem zcpR (f g : Nat → Int32) (n i : Nat) (row : Nat → Int32) (hr : row = fun k => if k < i then f k else g k) (hi : i < n) : upd row i (f i) = fun k => if k < i + 1 then f k else g k := by
  subst hr
  funext k
  rw [zup_ap]
  by_cases q : k = i
  · subst q; simp
  · rw [if_neg q]
    by_cases q2 : k < i
    · rw [if_pos q2, if_pos (by omega)]
    · rw [if_neg q2, if_neg (by omega)]
theorem c150 (hQ : Q none (zhr h 73 (fun k => if k < 62 then h 61 k else h 73 k))) : zM (d + 1) 150 [.ref 60] h Q := by
  rw [m150]
  simp only [↓r150_0, ↓r150_1, ↓r150_3, ↓r150_5, ↓r150_8, ↓r150_9, ↓r150_12, ↓r150_13, ↓r150_14, ↓r150_17, ↓r150_18, ↓r150_19, ↓r150_20, ↓r150_23, ↓r150_26]
  have hs : ∀ (i : Nat) (r : Nat → Int32), i < 62 → (r = fun k => if k < i then h 61 k else h 73 k) → (zR d 150 Q 2 [some (.ref 60), some (.int (nI i))] [] (zhr h 73 r) = zR d 150 Q 2 [some (.ref 60), some (.int (nI (i + 1)))] [] (zhr h 73 (upd r i (h 61 i)))) ∧ upd r i (h 61 i) = fun k => if k < i + 1 then h 61 k else h 73 k := by
    intro i r hi hr
    refine ⟨?_, zcpR _ _ 62 i r hr hi⟩
    rw [r150_2]
    simp only [↓r150_0, ↓r150_1, ↓r150_3, ↓r150_5, ↓r150_8, ↓r150_9, ↓r150_12, ↓r150_13, ↓r150_14, ↓r150_17, ↓r150_18, ↓r150_19, ↓r150_20, ↓r150_23, ↓r150_26, zl_61, zs_73, show (62 : Int32) = nI 62 from rfl, nI_lt hi (by omega : 62 < 2 ^ 31), if_true, zok_nI (by omega : i < 62) (by omega), zok_nI (by omega : i < 3062) (by omega), zix_nI (by omega : i < 2 ^ 31), true_and, zhr_ap, Nat.reduceEqDiff, if_false, zhr_zhr, nI_1]
  have := zloopI (fun i (r : Nat → Int32) => zR d 150 Q 2 [some (.ref 60), some (.int (nI i))] [] (zhr h 73 r)) (fun i r => r = fun k => if k < i then h 61 k else h 73 k) (fun i r => upd r i (h 61 i)) 62 hs (h 73) (by funext k; simp)
  obtain ⟨hW, hI⟩ := this
  simp only [nI_0, zhr_self] at hW
  rw [hW, hI, r150_2]
  simp only [↓r150_0, ↓r150_1, ↓r150_3, ↓r150_5, ↓r150_8, ↓r150_9, ↓r150_12, ↓r150_13, ↓r150_14, ↓r150_17, ↓r150_18, ↓r150_19, ↓r150_20, ↓r150_23, ↓r150_26, show (62 : Int32) = nI 62 from rfl, nI_nlt (Nat.le_refl 62) (by omega), if_false]
  exact hQ
theorem c151 (hQ : Q none (zhr h 61 (fun k => if k < 62 then h 73 k else h 61 k))) : zM (d + 1) 151 [.ref 60] h Q := by
  rw [m151]
  simp only [↓r151_0, ↓r151_1, ↓r151_3, ↓r151_5, ↓r151_8, ↓r151_9, ↓r151_12, ↓r151_13, ↓r151_14, ↓r151_17, ↓r151_18, ↓r151_19, ↓r151_20, ↓r151_23, ↓r151_26]
  have hs : ∀ (i : Nat) (r : Nat → Int32), i < 62 → (r = fun k => if k < i then h 73 k else h 61 k) → (zR d 151 Q 2 [some (.ref 60), some (.int (nI i))] [] (zhr h 61 r) = zR d 151 Q 2 [some (.ref 60), some (.int (nI (i + 1)))] [] (zhr h 61 (upd r i (h 73 i)))) ∧ upd r i (h 73 i) = fun k => if k < i + 1 then h 73 k else h 61 k := by
    intro i r hi hr
    refine ⟨?_, zcpR _ _ 62 i r hr hi⟩
    rw [r151_2]
    simp only [↓r151_0, ↓r151_1, ↓r151_3, ↓r151_5, ↓r151_8, ↓r151_9, ↓r151_12, ↓r151_13, ↓r151_14, ↓r151_17, ↓r151_18, ↓r151_19, ↓r151_20, ↓r151_23, ↓r151_26, zl_73, zs_61, show (62 : Int32) = nI 62 from rfl, nI_lt hi (by omega : 62 < 2 ^ 31), if_true, zok_nI (by omega : i < 62) (by omega), zok_nI (by omega : i < 3062) (by omega), zix_nI (by omega : i < 2 ^ 31), true_and, zhr_ap, Nat.reduceEqDiff, if_false, zhr_zhr, nI_1]
  have := zloopI (fun i (r : Nat → Int32) => zR d 151 Q 2 [some (.ref 60), some (.int (nI i))] [] (zhr h 61 r)) (fun i r => r = fun k => if k < i then h 73 k else h 61 k) (fun i r => upd r i (h 73 i)) 62 hs (h 61) (by funext k; simp)
  obtain ⟨hW, hI⟩ := this
  simp only [nI_0, zhr_self] at hW
  rw [hW, hI, r151_2]
  simp only [↓r151_0, ↓r151_1, ↓r151_3, ↓r151_5, ↓r151_8, ↓r151_9, ↓r151_12, ↓r151_13, ↓r151_14, ↓r151_17, ↓r151_18, ↓r151_19, ↓r151_20, ↓r151_23, ↓r151_26, show (62 : Int32) = nI 62 from rfl, nI_nlt (Nat.le_refl 62) (by omega), if_false]
  exact hQ
/-- setAside(from, to): rows 61, 62, 63 -/
theorem c196 {a b : Nat} (hab : (a = 61 ∧ b = 63) ∨ (a = 62 ∧ b = 61) ∨ (a = 63 ∧ b = 61) ∨ (a = 61 ∧ b = 62)) (hQ : Q none (zhr h b (fun k => if k < 2862 then h a k else h b k))) : zM (d + 1) 196 [.ref 60, .ref a, .ref b] h Q := by
  have hl : ∀ {x : Int32} {g : zH} {k : Int32 → Prop}, zal a x g k = (zok x 3062 ∧ k (g a (zix x))) := by
    intro x g k
    rcases hab with ⟨rfl, rfl⟩ | ⟨rfl, rfl⟩ | ⟨rfl, rfl⟩ | ⟨rfl, rfl⟩ <;> rfl
  have hs' : ∀ {x z : Int32} {g : zH} {k : zH → Prop}, zas b x z g k = (zok x 3062 ∧ k (zhr g b (upd (g b) (zix x) z))) := by
    intro x z g k
    rcases hab with ⟨rfl, rfl⟩ | ⟨rfl, rfl⟩ | ⟨rfl, rfl⟩ | ⟨rfl, rfl⟩ <;> exact zand_l rfl
  have hne : ¬ a = b := by omega
  rw [m196]
  simp only [↓r196_0, ↓r196_1, ↓r196_3, ↓r196_6, ↓r196_9, ↓r196_10, ↓r196_11, ↓r196_12, ↓r196_13, ↓r196_14, ↓r196_15, ↓r196_18, ↓r196_21]
  have hs : ∀ (i : Nat) (r : Nat → Int32), i < 2862 → (r = fun k => if k < i then h a k else h b k) → (zR d 196 Q 2 [some (.ref 60), some (.ref a), some (.ref b), some (.int (nI i))] [] (zhr h b r) = zR d 196 Q 2 [some (.ref 60), some (.ref a), some (.ref b), some (.int (nI (i + 1)))] [] (zhr h b (upd r i (h a i)))) ∧ upd r i (h a i) = fun k => if k < i + 1 then h a k else h b k := by
    intro i r hi hr
    refine ⟨?_, zcpR _ _ 2862 i r hr hi⟩
    rw [r196_2]
    simp only [↓r196_0, ↓r196_1, ↓r196_3, ↓r196_6, ↓r196_9, ↓r196_10, ↓r196_11, ↓r196_12, ↓r196_13, ↓r196_14, ↓r196_15, ↓r196_18, ↓r196_21, hl, hs', show (2862 : Int32) = nI 2862 from rfl, nI_lt hi (by omega : 2862 < 2 ^ 31), if_true, zok_nI (by omega : i < 3062) (by omega), zix_nI (by omega : i < 2 ^ 31), true_and, zhr_ap, if_neg hne, zhr_zhr, nI_1]
  have := zloopI (fun i (r : Nat → Int32) => zR d 196 Q 2 [some (.ref 60), some (.ref a), some (.ref b), some (.int (nI i))] [] (zhr h b r)) (fun i r => r = fun k => if k < i then h a k else h b k) (fun i r => upd r i (h a i)) 2862 hs (h b) (by funext k; simp)
  obtain ⟨hW, hI⟩ := this
  simp only [nI_0, zhr_self] at hW
  rw [hW, hI, r196_2]
  simp only [↓r196_0, ↓r196_1, ↓r196_3, ↓r196_6, ↓r196_9, ↓r196_10, ↓r196_11, ↓r196_12, ↓r196_13, ↓r196_14, ↓r196_15, ↓r196_18, ↓r196_21, show (2862 : Int32) = nI 2862 from rfl, nI_nlt (Nat.le_refl 2862) (by omega), if_false]
  exact hQ
end
