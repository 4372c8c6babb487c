/-! pairs: small ones -/
section
variable {d : Nat} {x0 x1 x2 : Int32}
theorem zst10 : zst 10 := Or.inl rfl
theorem zst18 : zst 18 := Or.inr (Or.inl rfl)
theorem zst26 : zst 26 := Or.inr (Or.inr rfl)
theorem p_seed : zPair (d + 20) (d + 20) 68 140 [.int x0] := by
  intro h Q2 hR hQ
  obtain ⟨n, m, N, ⟨hSt, hm⟩, hu, hI, hSh, hSl, hNu, hTa⟩ := hR
  have hz : h 10 11 = h 61 5 := hSt.1.1.2.2.2.2.2
  rw [m68]
  simp only [↓r68_0, ↓r68_1, ↓r68_4, ↓r68_7, ↓r68_8, ↓r68_9, ↓r68_12, ↓r68_13, ↓r68_16, ↓r68_17, zc_10, zc_18, zc_26, zc_0, zc_1, zc_7, zc_60, Nat.reduceAdd, true_and]
  refine zPo_in rfl rfl ?_
  rw [m140]
  simp only [↓r140_0, ↓r140_1, ↓r140_2, ↓r140_3, ↓r140_6, c111, Option.toList, List.cons_append, List.nil_append]
  refine ⟨zok5, zPq_in (by rw [show zix 5 = 5 from rfl, zhr_ne _ _ (by omega), ← hz]) (hQ _ _ ⟨n, m, N, ⟨?_, hm⟩, hu, ?_, ?_, ?_, hNu, hTa⟩ rfl rfl)⟩
  · have hV := zV_fld (v := x0) (Or.inr (Or.inr (Or.inr (Or.inr (Or.inr ⟨rfl, rfl⟩))))) hSt.1
    refine zSt_set hSt (row' := upd (h 61) 5 x0) (zV_rows hV rfl (fun j hj => by rw [zhr_ne _ _ (by omega)])) ?_ rfl (fun c' a b => by rw [zhr_ne _ _ (by omega), zhr_ne _ _ (by omega)]) rfl rfl (fun k hk => by rw [zup_ap, if_neg (by omega)])
    obtain ⟨⟨b1, b2⟩, b3, b4, b5, b6, b7, b8⟩ := hSt.2.1
    refine ⟨⟨b1, b2⟩, fun i hi => ?_, b4, b5, b6, b7, b8⟩
    have e : ∀ w, upd (h 61) 5 x0 (12 + 5 * i + w) = h 61 (12 + 5 * i + w) := fun w => zup_lo (by omega)
    simp only [e]
    exact b3 i hi
  · exact rImg_keep hI (fun c' hc' => by rw [zhr_ne _ _ (by omega), zhr_ne _ _ (by omega)]) rfl rfl
  · exact rSheets_keep hSh (fun c' hc' => by rw [zhr_ne _ _ (by omega), zhr_ne _ _ (by omega)])
  · exact rSlots_keep hSl (fun c' hc' => by rw [zhr_ne _ _ (by omega), zhr_ne _ _ (by omega)])
theorem p_tell : zPair (d + 20) (d + 20) 97 195 [.int x0] := by
  intro h Q2 hR hQ
  obtain ⟨n, m, N, ⟨hSt, hm⟩, hu, hI, hSh, hSl, ⟨hw, ⟨w, hw60, hww⟩, hn⟩, hTa⟩ := hR
  have hw' : h 60 31 = nI w := hw.symm.trans hww
  rw [m97]
  by_cases g : w < 60
  · have g1 : nI w < 60 := by rw [show (60 : Int32) = nI 60 from rfl]; exact nI_lt g (by omega)
    simp only [↓r97_0, ↓r97_1, ↓r97_4, ↓r97_6, ↓r97_9, ↓r97_11, ↓r97_12, ↓r97_13, ↓r97_16, ↓r97_17, ↓r97_20, ↓r97_21, ↓r97_22, ↓r97_23, ↓r97_24, ↓r97_27, ↓r97_28, ↓r97_29, ↓r97_32, ↓r97_33, ↓r97_36, zc_10, zc_18, zc_26, zc_0, zc_1, zc_7, zc_60, Nat.reduceAdd, true_and, hww, if_pos g1, zs_59, zok_nI g (by omega), zix_nI (by omega : w < 2 ^ 31), nI_1, zhr_ap, Nat.reduceEqDiff, if_true, if_false, zu_same, zup_ap]
    refine zPo_in rfl rfl ?_
    have g2 : ¬ nI w = 60 := by rw [show (60 : Int32) = nI 60 from rfl, nI_eq (by omega) (by omega)]; omega
    rw [m195]
    simp only [↓r195_0, ↓r195_1, ↓r195_4, ↓r195_6, ↓r195_9, ↓r195_11, ↓r195_12, ↓r195_13, ↓r195_16, ↓r195_17, ↓r195_20, ↓r195_21, ↓r195_22, ↓r195_23, ↓r195_24, ↓r195_27, ↓r195_28, ↓r195_29, ↓r195_32, ↓r195_33, ↓r195_36, hw', if_neg g2, zs_78, zok_nI g (by omega), zix_nI (by omega : w < 2 ^ 31), nI_1, zhr_ap, Nat.reduceEqDiff, if_true, if_false, zu_same, zup_ap, true_and]
    refine zPq_in rfl (hQ _ _ ⟨n, m, N, ⟨?_, hm⟩, hu, ?_, ?_, ?_, ⟨rfl, ⟨w + 1, by omega, rfl⟩, ?_⟩, hTa⟩ rfl rfl)
    · exact zSt_keep hSt (fun j hj => by (repeat rw [zhr_ne _ _ (by omega)])) (fun c' a b => by (repeat rw [zhr_ne _ _ (by omega)]))
    · exact rImg_keep hI (fun c' hc' => by (repeat rw [zhr_ne _ _ (by omega)])) rfl rfl
    · exact rSheets_keep hSh (fun c' hc' => by (repeat rw [zhr_ne _ _ (by omega)]))
    · exact rSlots_keep hSl (fun c' hc' => by (repeat rw [zhr_ne _ _ (by omega)]))
    · intro i hi
      show (if i = w then x0 else h 59 i) = (if i = w then x0 else h 78 i)
      rw [hn i hi]
  · have g0 : w = 60 := by omega
    subst g0
    have g1 : ¬ nI 60 < 60 := by decide
    simp only [↓r97_0, ↓r97_1, ↓r97_4, ↓r97_6, ↓r97_9, ↓r97_11, ↓r97_12, ↓r97_13, ↓r97_16, ↓r97_17, ↓r97_20, ↓r97_21, ↓r97_22, ↓r97_23, ↓r97_24, ↓r97_27, ↓r97_28, ↓r97_29, ↓r97_32, ↓r97_33, ↓r97_36, zc_10, zc_18, zc_26, zc_0, zc_1, zc_7, zc_60, Nat.reduceAdd, true_and, hww, if_neg g1]
    refine zPo_in rfl rfl ?_
    rw [m195]
    have g2 : nI 60 = 60 := rfl
    simp only [↓r195_0, ↓r195_1, ↓r195_4, ↓r195_6, ↓r195_9, ↓r195_11, ↓r195_12, ↓r195_13, ↓r195_16, ↓r195_17, ↓r195_20, ↓r195_21, ↓r195_22, ↓r195_23, ↓r195_24, ↓r195_27, ↓r195_28, ↓r195_29, ↓r195_32, ↓r195_33, ↓r195_36, hw', if_pos g2, true_and]
    exact zPq_in rfl (hQ _ _ ⟨n, m, N, ⟨hSt, hm⟩, hu, hI, hSh, hSl, ⟨hw, ⟨60, hw60, hww⟩, hn⟩, hTa⟩ rfl rfl)
theorem p_trim : zPair (d + 20) (d + 20) 82 161 [.int x0] := by
  intro h Q2 hR hQ
  obtain ⟨n, m, N, ⟨hSt, hm⟩, hu, hI, hSh, hSl, hNu, ⟨hw, L, hL, hww, hn⟩⟩ := hR
  have hw' : h 60 16 = nI L := hw.symm.trans hww
  have e0 : Int32.toInt64 0 = (0 : Int32).toInt64 := rfl
  rw [m82]
  simp only [↓r82_0, ↓r82_1, ↓r82_2, ↓r82_3, ↓r82_6, ↓r82_9, ↓r82_12, ↓r82_15, ↓r82_17, ↓r82_18, ↓r82_19, ↓r82_22, ↓r82_23, ↓r82_26, ↓r82_27, zc_10, zc_18, zc_26, zc_0, zc_1, zc_7, zc_60, Nat.reduceAdd, true_and, hww, c103, Option.toList, List.cons_append, List.nil_append]
  by_cases g : 0 ≤ x0 ∧ x0 ≤ nI L
  · simp only [if_pos g]
    rw [if_neg (by decide)]
    refine zPo_in rfl rfl ?_
    rw [m161]
    simp only [↓r161_0, ↓r161_1, ↓r161_2, ↓r161_3, ↓r161_4, ↓r161_7, ↓r161_8, ↓r161_11, ↓r161_14, ↓r161_16, ↓r161_17, ↓r161_18, ↓r161_19, ↓r161_22, ↓r161_23, zhr_ap, Nat.reduceEqDiff, if_false, hw', c106, if_pos g, Option.toList, List.cons_append, List.nil_append, true_and]
    rw [if_neg (by decide)]
    obtain ⟨j, hj, rfl⟩ := nI_of2 (M := nI L) (n := L) (nI_toInt (by omega)) (Int32.not_lt.mpr g.1) g.2
    refine zPq_in rfl (hQ _ _ ⟨n, m, N, ⟨?_, hm⟩, hu, ?_, ?_, ?_, hNu, ⟨rfl, j, by omega, rfl, fun i hi => hn i (by omega)⟩⟩ rfl rfl)
    · exact zSt_keep hSt (fun j hj => by (repeat rw [zhr_ne _ _ (by omega)])) (fun c' a b => by (repeat rw [zhr_ne _ _ (by omega)]))
    · exact rImg_keep hI (fun c' hc' => by (repeat rw [zhr_ne _ _ (by omega)])) rfl rfl
    · exact rSheets_keep hSh (fun c' hc' => by (repeat rw [zhr_ne _ _ (by omega)]))
    · exact rSlots_keep hSl (fun c' hc' => by (repeat rw [zhr_ne _ _ (by omega)]))
  · simp only [if_neg g, if_true]
    refine zPo_in rfl rfl ?_
    rw [m161]
    simp only [↓r161_0, ↓r161_1, ↓r161_2, ↓r161_3, ↓r161_4, ↓r161_7, ↓r161_8, ↓r161_11, ↓r161_14, ↓r161_16, ↓r161_17, ↓r161_18, ↓r161_19, ↓r161_22, ↓r161_23, hw', c106, if_neg g, Option.toList, List.cons_append, List.nil_append, true_and, if_true]
    exact zPq_in rfl (hQ _ _ ⟨n, m, N, ⟨hSt, hm⟩, hu, hI, hSh, hSl, hNu, ⟨hw, L, hL, hww, hn⟩⟩ rfl rfl)
end
