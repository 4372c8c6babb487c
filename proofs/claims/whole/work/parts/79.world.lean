/-! the first world -/
def zIL (xs : Nat → Int32) (L : Nat) : List (Nat → Int32) := [(fun _ => 0), (fun _ => 0), (fun _ => 0), (fun _ => 0), (fun _ => 0), (fun _ => 0), (fun _ => 0), (upd (upd (fun _ => 0) 4 (-1)) 6 (-1)), (fun _ => 0), (fun _ => 0), (upd (upd (fun _ => 0) 11 1) 14 (-1)), (fun _ => 0), (fun _ => 0), (fun _ => 0), (fun _ => 0), (fun _ => 0), (upd (upd (upd (upd (upd (upd (fun _ => 0) 0 0) 1 30) 2 6) 3 40) 4 300) 5 1), (upd (upd (upd (fun _ => 0) 0 (-1)) 1 (-1)) 2 (-1)), (upd (upd (fun _ => 0) 11 1) 14 (-1)), (fun _ => 0), (fun _ => 0), (fun _ => 0), (fun _ => 0), (fun _ => 0), (upd (upd (upd (upd (upd (upd (fun _ => 0) 0 0) 1 30) 2 6) 3 40) 4 300) 5 1), (upd (upd (upd (fun _ => 0) 0 (-1)) 1 (-1)) 2 (-1)), (upd (upd (fun _ => 0) 11 1) 14 (-1)), (fun _ => 0), (fun _ => 0), (fun _ => 0), (fun _ => 0), (fun _ => 0), (upd (upd (upd (upd (upd (upd (fun _ => 0) 0 0) 1 30) 2 6) 3 40) 4 300) 5 1), (upd (upd (upd (fun _ => 0) 0 (-1)) 1 (-1)) 2 (-1)), (fun _ => 0), (upd (fun _ => 0) 0 (-1)), (fun _ => 0), (upd (fun _ => 0) 0 (-1)), (fun _ => 0), (upd (fun _ => 0) 0 (-1)), (fun _ => 0), (upd (fun _ => 0) 0 (-1)), (fun _ => 0), (fun _ => 0), (fun _ => 0), (upd (fun _ => 0) 0 (-1)), (fun _ => 0), (fun _ => 0), (upd (fun _ => 0) 0 (-1)), (fun _ => 0), (fun _ => 0), (upd (fun _ => 0) 0 (-1)), (fun _ => 0), (fun _ => 0), (upd (fun _ => 0) 0 (-1)), (fun _ => 0), (fun _ => 0), (upd (fun _ => 0) 0 (-1)), (fun _ => 0), (fun _ => 0), (upd (fun _ => 0) 12 (-1)), (upd (upd (upd (upd (upd (upd (fun _ => 0) 5 1) 7 30) 8 6) 9 40) 10 300) 11 1), (fun _ => 0), (fun _ => 0), (upd (upd (upd (upd (fun _ => 0) 0 (-1)) 1 (-1)) 2 (-1)) 3 (-1)), (fun _ => 0), (fun _ => 0), (fun _ => 0), (fun _ => 0), (fun _ => 0), (fun _ => 0), (fun _ => 0), (fun _ => 0), (fun _ => 0), (fun _ => 0), (fun _ => 0), (fun _ => 0), (fun _ => 0), (fun _ => 0), (fun _ => 0), (fun _ => 0), (fun _ => 0), (fun _ => 0), (fun _ => 0), xs, (fun _ => nI L)]
def zI (xs : Nat → Int32) (L : Nat) : zH := fun c => (zIL xs L).getD c (fun _ => 0)
set_option maxRecDepth 100000 in
set_option maxHeartbeats 8000000 in
theorem zI_wl (ad : Nat → Nat) (ca : Nat → ClassId) (xs : Nat → Int32) (L : Nat) : zwl ad ca (zI xs L) = [(ad 0, .inr (6, [.ref (ad 1), .ref (ad 7), .ref (ad 10), .ref (ad 18), .ref (ad 26), .int 0, .ref (ad 34), .ref (ad 43), .ref (ad 59), .int 0])), (ad 1, .inr (1, [.ref (ad 2), .ref (ad 3), .ref (ad 4), .ref (ad 5), .ref (ad 6)])), (ad 2, .inl (ca 0, 14, .inl (fun _ => 0))), (ad 3, .inl (ca 0, 14, .inl (fun _ => 0))), (ad 4, .inl (ca 0, 14, .inl (fun _ => 0))), (ad 5, .inl (ca 0, 1344, .inl (fun _ => 0))), (ad 6, .inl (ca 0, 96, .inl (fun _ => 0))), (ad 7, .inr (2, [.ref (ad 8), .int 0, .int 0, .int 0, .int (-1), .int 0, .int (-1), .int 0, .ref (ad 9), .int 0, .int 0])), (ad 8, .inl (ca 0, 96, .inl (fun _ => 0))), (ad 9, .inl (ca 0, 96, .inl (fun _ => 0))), (ad 10, .inr (5, [.ref (ad 1), .int 0, .ref (ad 11), .ref (ad 12), .ref (ad 13), .ref (ad 14), .ref (ad 15), .ref (ad 16), .int 0, .int 0, .int 0, .int 1, .int 0, .ref (ad 17), .int (-1)])), (ad 11, .inl (ca 0, 10, .inl (fun _ => 0))), (ad 12, .inl (ca 0, 10, .inl (fun _ => 0))), (ad 13, .inl (ca 0, 10, .inl (fun _ => 0))), (ad 14, .inl (ca 0, 10, .inl (fun _ => 0))), (ad 15, .inl (ca 0, 10, .inl (fun _ => 0))), (ad 16, .inl (ca 0, 6, .inl (upd (upd (upd (upd (upd (upd (fun _ => 0) 0 0) 1 30) 2 6) 3 40) 4 300) 5 1))), (ad 17, .inl (ca 0, 3, .inl (upd (upd (upd (fun _ => 0) 0 (-1)) 1 (-1)) 2 (-1)))), (ad 18, .inr (5, [.ref (ad 1), .int 0, .ref (ad 19), .ref (ad 20), .ref (ad 21), .ref (ad 22), .ref (ad 23), .ref (ad 24), .int 0, .int 0, .int 0, .int 1, .int 0, .ref (ad 25), .int (-1)])), (ad 19, .inl (ca 0, 10, .inl (fun _ => 0))), (ad 20, .inl (ca 0, 10, .inl (fun _ => 0))), (ad 21, .inl (ca 0, 10, .inl (fun _ => 0))), (ad 22, .inl (ca 0, 10, .inl (fun _ => 0))), (ad 23, .inl (ca 0, 10, .inl (fun _ => 0))), (ad 24, .inl (ca 0, 6, .inl (upd (upd (upd (upd (upd (upd (fun _ => 0) 0 0) 1 30) 2 6) 3 40) 4 300) 5 1))), (ad 25, .inl (ca 0, 3, .inl (upd (upd (upd (fun _ => 0) 0 (-1)) 1 (-1)) 2 (-1)))), (ad 26, .inr (5, [.ref (ad 1), .int 0, .ref (ad 27), .ref (ad 28), .ref (ad 29), .ref (ad 30), .ref (ad 31), .ref (ad 32), .int 0, .int 0, .int 0, .int 1, .int 0, .ref (ad 33), .int (-1)])), (ad 27, .inl (ca 0, 10, .inl (fun _ => 0))), (ad 28, .inl (ca 0, 10, .inl (fun _ => 0))), (ad 29, .inl (ca 0, 10, .inl (fun _ => 0))), (ad 30, .inl (ca 0, 10, .inl (fun _ => 0))), (ad 31, .inl (ca 0, 10, .inl (fun _ => 0))), (ad 32, .inl (ca 0, 6, .inl (upd (upd (upd (upd (upd (upd (fun _ => 0) 0 0) 1 30) 2 6) 3 40) 4 300) 5 1))), (ad 33, .inl (ca 0, 3, .inl (upd (upd (upd (fun _ => 0) 0 (-1)) 1 (-1)) 2 (-1)))), (ad 34, .inl (ca 1, 4, .inr (.inr (.inr (.inr (fun i => some (ad (35 + 2 * i)))))))), (ad 35, .inr (3, [.int (-1), .int 0, .ref (ad 36)])), (ad 36, .inl (ca 0, 24, .inl (fun _ => 0))), (ad 37, .inr (3, [.int (-1), .int 0, .ref (ad 38)])), (ad 38, .inl (ca 0, 24, .inl (fun _ => 0))), (ad 39, .inr (3, [.int (-1), .int 0, .ref (ad 40)])), (ad 40, .inl (ca 0, 24, .inl (fun _ => 0))), (ad 41, .inr (3, [.int (-1), .int 0, .ref (ad 42)])), (ad 42, .inl (ca 0, 24, .inl (fun _ => 0))), (ad 43, .inl (ca 2, 5, .inr (.inr (.inr (.inr (fun i => some (ad (44 + 3 * i)))))))), (ad 44, .inr (4, [.int 0, .int 0, .int 0, .int 0, .ref (ad 45)])), (ad 45, .inr (3, [.int (-1), .int 0, .ref (ad 46)])), (ad 46, .inl (ca 0, 24, .inl (fun _ => 0))), (ad 47, .inr (4, [.int 0, .int 0, .int 0, .int 0, .ref (ad 48)])), (ad 48, .inr (3, [.int (-1), .int 0, .ref (ad 49)])), (ad 49, .inl (ca 0, 24, .inl (fun _ => 0))), (ad 50, .inr (4, [.int 0, .int 0, .int 0, .int 0, .ref (ad 51)])), (ad 51, .inr (3, [.int (-1), .int 0, .ref (ad 52)])), (ad 52, .inl (ca 0, 24, .inl (fun _ => 0))), (ad 53, .inr (4, [.int 0, .int 0, .int 0, .int 0, .ref (ad 54)])), (ad 54, .inr (3, [.int (-1), .int 0, .ref (ad 55)])), (ad 55, .inl (ca 0, 24, .inl (fun _ => 0))), (ad 56, .inr (4, [.int 0, .int 0, .int 0, .int 0, .ref (ad 57)])), (ad 57, .inr (3, [.int (-1), .int 0, .ref (ad 58)])), (ad 58, .inl (ca 0, 24, .inl (fun _ => 0))), (ad 59, .inl (ca 0, 60, .inl (fun _ => 0))), (ad 60, .inr (7, [.ref (ad 61), .ref (ad 62), .ref (ad 63), .int 0, .ref (ad 64), .ref (ad 65), .ref (ad 66), .ref (ad 67), .ref (ad 68), .ref (ad 69), .ref (ad 70), .ref (ad 71), .int (-1), .ref (ad 72), .ref (ad 73), .ref (ad 74), .int 0, .int 0, .int 0, .int 0, .int 0, .int 0, .int 0, .int 0, .int 0, .int 0, .int 0, .ref (ad 75), .ref (ad 76), .ref (ad 77), .ref (ad 78), .int 0, .ref (ad 79)])), (ad 61, .inl (ca 0, 3062, .inl (upd (upd (upd (upd (upd (upd (fun _ => 0) 5 1) 7 30) 8 6) 9 40) 10 300) 11 1))), (ad 62, .inl (ca 0, 3062, .inl (fun _ => 0))), (ad 63, .inl (ca 0, 3062, .inl (fun _ => 0))), (ad 64, .inl (ca 0, 4, .inl (upd (upd (upd (upd (fun _ => 0) 0 (-1)) 1 (-1)) 2 (-1)) 3 (-1)))), (ad 65, .inl (ca 0, 4, .inl (fun _ => 0))), (ad 66, .inl (ca 0, 96, .inl (fun _ => 0))), (ad 67, .inl (ca 0, 5, .inl (fun _ => 0))), (ad 68, .inl (ca 0, 5, .inl (fun _ => 0))), (ad 69, .inl (ca 0, 5, .inl (fun _ => 0))), (ad 70, .inl (ca 0, 5, .inl (fun _ => 0))), (ad 71, .inl (ca 0, 120, .inl (fun _ => 0))), (ad 72, .inl (ca 0, 10, .inl (fun _ => 0))), (ad 73, .inl (ca 0, 62, .inl (fun _ => 0))), (ad 74, .inl (ca 0, 96, .inl (fun _ => 0))), (ad 75, .inl (ca 0, 128, .inl (fun _ => 0))), (ad 76, .inl (ca 0, 100, .inl (fun _ => 0))), (ad 77, .inl (ca 0, 24, .inl (fun _ => 0))), (ad 78, .inl (ca 0, 60, .inl (fun _ => 0))), (ad 79, .inl (ca 0, 60, .inl (fun _ => 0)))] := rfl
theorem zI_0 (xs : Nat → Int32) (L : Nat) {k : Nat} (hk : 12 ≤ k) : zI xs L 61 k = 0 := by
  show upd (upd (upd (upd (upd (upd (fun _ => 0) 5 1) 7 30) 8 6) 9 40) 10 300) 11 1 k = 0
  unfold upd
  rw [if_neg (by omega), if_neg (by omega), if_neg (by omega), if_neg (by omega), if_neg (by omega), if_neg (by omega)]
theorem zI_sh {f g : Nat → Int32} (hf : f = fun _ => 0) (hg : g = fun _ => 0) (k : Nat) : rShEnc f g k := by
  subst hf; subst hg
  exact fun i _ => Or.inr ⟨(by decide : ¬ (0 : Int32) = -1000000005), rfl, (by decide : (-99999 : Int32) ≤ 0), (by decide : (0 : Int32) ≤ 99999)⟩
set_option maxRecDepth 100000 in
theorem zI_rel (xs : Nat → Int32) (L : Nat) : zRel (zI xs L) := by
  refine ⟨0, 0, 0, ⟨⟨⟨⟨rfl, rfl, rfl, rfl, rfl, rfl⟩, ⟨rfl, rfl, rfl, rfl, rfl, rfl⟩, fun l _ => ?_⟩, ⟨⟨rfl, by decide⟩, fun i hi => absurd hi (Nat.not_lt_zero i), Or.inl rfl, ⟨?_, ?_⟩, ⟨?_, ?_⟩, rfl, 0, by decide, rfl⟩, ⟨rfl, by decide⟩, fun key hk => ?_, fun t ht => absurd ht (Nat.not_lt_zero t), rfl⟩, by decide⟩, rfl, ⟨rfl, Or.inl rfl⟩, ⟨?_, ?_, ?_, ?_⟩, ⟨⟨rfl, Or.inl rfl⟩, ⟨rfl, Or.inl rfl⟩, ⟨rfl, Or.inl rfl⟩, ⟨rfl, Or.inl rfl⟩, ⟨rfl, Or.inl rfl⟩⟩, ⟨rfl, ⟨0, by decide, rfl⟩, fun _ _ => rfl⟩, ⟨rfl, 0, by decide, rfl, fun i hi => absurd hi (Nat.not_lt_zero i)⟩⟩
  · rw [zI_0 xs L (k := 12 + 5 * l + 0) (by omega), zI_0 xs L (k := 12 + 5 * l + 1) (by omega), zI_0 xs L (k := 12 + 5 * l + 2) (by omega), zI_0 xs L (k := 12 + 5 * l + 3) (by omega), zI_0 xs L (k := 12 + 5 * l + 4) (by omega)]
    exact ⟨rfl, rfl, rfl, rfl, rfl⟩
  · show (0 : Int32) ≤ 30; decide
  · show (30 : Int32) ≤ 90; decide
  · show (0 : Int32) ≤ 40; decide
  · show (40 : Int32) ≤ 99; decide
  · rcases (by omega : key = 0 ∨ key = 1 ∨ key = 2) with rfl | rfl | rfl <;> rfl
  · exact ⟨rfl, Or.inl rfl, ⟨0, by decide, rfl, rfl⟩, zI_sh rfl rfl 0⟩
  · exact ⟨rfl, Or.inl rfl, ⟨0, by decide, rfl, rfl⟩, zI_sh rfl rfl 1⟩
  · exact ⟨rfl, Or.inl rfl, ⟨0, by decide, rfl, rfl⟩, zI_sh rfl rfl 2⟩
  · exact ⟨rfl, Or.inl rfl, ⟨0, by decide, rfl, rfl⟩, zI_sh rfl rfl 3⟩
theorem zwl_D {ad : Nat → Nat} {ca : Nat → ClassId} {A : Nat → Prop} {h : zH} (hD : va_D A (zwl ad ca h)) (h' : zH) : va_D A (zwl ad ca h') := by
  have key : ∀ (g : zH) (i : Nat) (p : Nat × va_E), (zwl ad ca g)[i]? = some p → i < 80 ∧ p.1 = ad i := by
    intro g i p hp
    have hi : i < 80 := by
      have := (List.getElem?_eq_some_iff.mp hp).1
      simpa [zwl] using this
    rw [zwl_get hi] at hp
    exact ⟨hi, by rw [← Option.some.inj hp]⟩
  refine ⟨fun i j p q hp hq e => ?_, fun k q hk => ?_⟩
  · obtain ⟨hi, ei⟩ := key h' i p hp
    obtain ⟨hj, ej⟩ := key h' j q hq
    exact hD.1 i j _ _ (zwl_get hi) (zwl_get hj) (by rw [← ei, ← ej]; exact e)
  · obtain ⟨hi, ei⟩ := key h' k q hk
    rw [ei]
    exact hD.2 k _ (zwl_get hi)
/-- the contents of an array of references, named otherwise -/
theorem va_P_re {D : va_G} {ws : va_W} {H : Heap} {a N : Nat} {cA : ClassId} {f g : Nat → Option Nat} (k : Nat) (hk : ws[k]? = some (a, .inl (cA, N, .inr (.inr (.inr (.inr f)))))) (hP : va_P D zcl ws H) (hfg : ∀ i, i < N → f i = g i) : va_P D zcl (ws.set k (a, .inl (cA, N, .inr (.inr (.inr (.inr g)))))) H := by
  intro i q hi
  by_cases e : i = k
  · subst e
    rw [List.getElem?_set_self (List.getElem?_eq_some_iff.mp hk).1] at hi
    cases hi
    have h1 : H[a]? = some (arrV cA N (fun j => va_rf (f j))) := hP i _ hk
    show H[a]? = some (arrV cA N (fun j => va_rf (g j)))
    rw [h1]
    unfold arrV
    congr 3
    funext j
    exact congrArg va_rf (hfg j.val j.isLt)
  · rw [List.getElem?_set_ne (Ne.symm e)] at hi
    exact hP i q hi
