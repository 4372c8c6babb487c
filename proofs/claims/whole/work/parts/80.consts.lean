/-! at the law's entry: the types, the layouts, the constants -/
theorem tw_in {u : Nat} {w : Jvm.Cond} (h : (ztab (u / 1000))[u % 1000]? = some w) : w ∈ lw_tbl := ztab_in (List.mem_of_getElem? h)
theorem nw_at {args : Array Value} {s : State} (hgv : (Jvm.Cond.and given_1 narrow_1).before args s = true) (i : Nat) {w : Jvm.Cond} (h : (flatC (Jvm.Cond.and given_1 narrow_1))[i]? = some w) : w.before args s = true := flat_of_before _ hgv w (List.mem_of_getElem? h)
section
variable {s : State} {args : Array Value}
theorem ty_first (hts : ∀ w ∈ lw_tbl, w.before args s = true) : ∃ ca : Nat → ClassId, ∀ (k : Nat) (q : ClassId × FieldType), (zty ca)[k]? = some q → ArrOfT s q.1 q.2 ∧ va_RA s q.1 q.2 := by
  obtain ⟨c0, k0, p0, e1, e2, e3⟩ := Cond.arrayClass_spec (hts (Jvm.Cond.arrayClass Jvm.ClassFile.FieldType.int) (tw_in (u := 1070) (by decide +kernel)))
  obtain ⟨p1, c1, k1, f1, -, f2, f3, f4⟩ := Cond.arrayOver_spec (hts (Jvm.Cond.arrayOver (Jvm.ClassFile.FieldType.object RX3)) (tw_in (u := 1072) (by decide +kernel)))
  obtain ⟨p2, c2, k2, g1, -, g2, g3, g4⟩ := Cond.arrayOver_spec (hts (Jvm.Cond.arrayOver (Jvm.ClassFile.FieldType.object RX4)) (tw_in (u := 1074) (by decide +kernel)))
  refine ⟨fun i => [c0, c1, c2].getD i c0, fun k q hq => ?_⟩
  match k, hq with
  | 0, hq => cases hq; exact ⟨fun n z => ⟨fun k h => (by cases h), k0, e2, p0, e3⟩, e1⟩
  | 1, hq => cases hq; exact ⟨fun n z => ⟨fun k h => (by cases h), k1, f2, p1, f3⟩, k1, p1, f2, f3, f1, f4⟩
  | 2, hq => cases hq; exact ⟨fun n z => ⟨fun k h => (by cases h), k2, g2, p2, g3⟩, k2, p2, g2, g3, g1, g4⟩
  | k + 3, hq => cases hq
theorem kn_first (hts : ∀ w ∈ zgt, w.before args s = true) : ∃ D : va_G, ∀ (c : Nat) (q : vw_C), zcl[c]? = some q → u_Kn s q.1 q.2.1 q.2.2 (D.1 c) (D.2 c) := by
  have h : ∀ c : Nat, ∃ x : ClassId × (Nat → Nat), ∀ q : vw_C, zcl[c]? = some q → u_Kn s q.1 q.2.1 q.2.2 x.1 x.2 := by
    intro c
    match c with
    | 0 => obtain ⟨cC, iS, k⟩ := u_known (n := 5) hts zu0 (hts _ (zG_gt (u := 1076) (by decide +kernel))); exact ⟨(cC, iS), fun q hq => by cases hq; exact k⟩
    | 1 => obtain ⟨cC, iS, k⟩ := u_known (n := 5) hts zu1 (hts _ (zG_gt (u := 1076) (by decide +kernel))); exact ⟨(cC, iS), fun q hq => by cases hq; exact k⟩
    | 2 => obtain ⟨cC, iS, k⟩ := u_known (n := 11) hts zu2 (hts _ (zG_gt (u := 1025) (by decide +kernel))); exact ⟨(cC, iS), fun q hq => by cases hq; exact k⟩
    | 3 => obtain ⟨cC, iS, k⟩ := u_known (n := 3) hts zu3 (hts _ (zG_gt (u := 1165) (by decide +kernel))); exact ⟨(cC, iS), fun q hq => by cases hq; exact k⟩
    | 4 => obtain ⟨cC, iS, k⟩ := u_known (n := 5) hts zu4 (hts _ (zG_gt (u := 1183) (by decide +kernel))); exact ⟨(cC, iS), fun q hq => by cases hq; exact k⟩
    | 5 => obtain ⟨cC, iS, k⟩ := u_known (n := 15) hts zu5 (hts _ (zG_gt (u := 1100) (by decide +kernel))); exact ⟨(cC, iS), fun q hq => by cases hq; exact k⟩
    | 6 => obtain ⟨cC, iS, k⟩ := u_known (n := 10) hts zu6 (hts _ (zG_gt (u := 1017) (by decide +kernel))); exact ⟨(cC, iS), fun q hq => by cases hq; exact k⟩
    | 7 => obtain ⟨cC, iS, k⟩ := u_known (n := 33) hts zu7 (hts _ (zG_gt (u := 4060) (by decide +kernel))); exact ⟨(cC, iS), fun q hq => by cases hq; exact k⟩
    | k + 8 => exact ⟨(0, fun _ => 0), fun q hq => by cases hq⟩
  obtain ⟨f, hf⟩ := Classical.axiomOfChoice h
  exact ⟨(fun c => (f c).1, fun c => (f c).2), hf⟩
theorem ne_first (hts : ∀ w ∈ lw_tbl, w.before args s = true) : iNe s := by
  refine ⟨fun w hw hn => ?_, va_AO.of (hts (Jvm.Cond.arrayOver (Jvm.ClassFile.FieldType.object RX3)) (tw_in (u := 1072) (by decide +kernel))), va_AO.of (hts (Jvm.Cond.arrayOver (Jvm.ClassFile.FieldType.object RX4)) (tw_in (u := 1074) (by decide +kernel)))⟩
  have h := hts w hw
  match w, hn, h with
  | .fieldLinkNest a i b n d g, _, h => exact va_Nw.of rfl h
  | .methodLinkNest a i x g, _, h => exact va_Nw.of rfl h
/-- the three texts -/
def kTm (i : Nat) : Jvm.Term := .string RX2 (match i with | 0 => 81 | 1 => 89 | _ => 91)
theorem kS_first {A : Nat → Prop} (hgv : (Jvm.Cond.and given_1 narrow_1).before args s = true) (hA : ∀ a : Nat, a < s.heap.size → ¬ A a) : ∃ adK adV : Nat → Nat, vk_S 3 [4, 4, 4] zlitB adK adV A s s.heap ∧ ∀ i : Nat, i < 3 → (kTm i).eval args s none [] s = some (.ref (adK i)) := by
  refine vk_Sof (tm := kTm) ?_ ?_ ?_ ?_ ?_ ?_ ?_ hA
  · intro i hi
    rcases (by omega : i = 0 ∨ i = 1 ∨ i = 2) with rfl | rfl | rfl <;> decide
  · intro i hi
    rcases (by omega : i = 0 ∨ i = 1 ∨ i = 2) with rfl | rfl | rfl
    · exact nw_at hgv 62 rfl
    · exact nw_at hgv 70 rfl
    · exact nw_at hgv 79 rfl
  · intro i hi
    rcases (by omega : i = 0 ∨ i = 1 ∨ i = 2) with rfl | rfl | rfl
    · exact nw_at hgv 63 rfl
    · exact nw_at hgv 71 rfl
    · exact nw_at hgv 80 rfl
  · intro i hi
    rcases (by omega : i = 0 ∨ i = 1 ∨ i = 2) with rfl | rfl | rfl
    · exact nw_at hgv 64 rfl
    · exact nw_at hgv 72 rfl
    · exact nw_at hgv 81 rfl
  · intro i hi
    rcases (by omega : i = 0 ∨ i = 1 ∨ i = 2) with rfl | rfl | rfl
    · exact nw_at hgv 65 rfl
    · exact nw_at hgv 73 rfl
    · exact nw_at hgv 82 rfl
  · intro i hi j hj
    rcases (by omega : i = 0 ∨ i = 1 ∨ i = 2) with rfl | rfl | rfl
    · have hj : j < 4 := hj
      rcases (by omega : j = 0 ∨ j = 1 ∨ j = 2 ∨ j = 3) with rfl | rfl | rfl | rfl
      · exact nw_at hgv 66 rfl
      · exact nw_at hgv 67 rfl
      · exact nw_at hgv 68 rfl
      · exact nw_at hgv 69 rfl
    · have hj : j < 4 := hj
      rcases (by omega : j = 0 ∨ j = 1 ∨ j = 2 ∨ j = 3) with rfl | rfl | rfl | rfl
      · exact nw_at hgv 74 rfl
      · exact nw_at hgv 75 rfl
      · exact nw_at hgv 76 rfl
      · exact nw_at hgv 77 rfl
    · have hj : j < 4 := hj
      rcases (by omega : j = 0 ∨ j = 1 ∨ j = 2 ∨ j = 3) with rfl | rfl | rfl | rfl
      · exact nw_at hgv 83 rfl
      · exact nw_at hgv 84 rfl
      · exact nw_at hgv 85 rfl
      · exact nw_at hgv 86 rfl
  · intro i j hi hj hij
    rcases (by omega : (i = 0 ∧ j = 1) ∨ (i = 1 ∧ j = 0) ∨ (i = 0 ∧ j = 2) ∨ (i = 2 ∧ j = 0) ∨ (i = 1 ∧ j = 2) ∨ (i = 2 ∧ j = 1)) with ⟨rfl, rfl⟩ | ⟨rfl, rfl⟩ | ⟨rfl, rfl⟩ | ⟨rfl, rfl⟩ | ⟨rfl, rfl⟩ | ⟨rfl, rfl⟩
    · exact Or.inl (nw_at hgv 78 rfl)
    · exact Or.inr (nw_at hgv 78 rfl)
    · exact Or.inl (nw_at hgv 87 rfl)
    · exact Or.inr (nw_at hgv 87 rfl)
    · exact Or.inl (nw_at hgv 88 rfl)
    · exact Or.inr (nw_at hgv 88 rfl)
/-- an array of constants: its words in their places -/
theorem kT_first {A : Nat → Prop} (hts : ∀ w ∈ lw_tbl, w.before args s = true) {C n d : String} {ty : FieldType} {k : Nat} (hN : zaln k < 2 ^ 31) (hl : Jvm.Cond.laysStatic C n d ∈ lw_tbl) (hi : Jvm.Cond.initialized C ∈ lw_tbl) (harr : (Cond.arrayOf (.static C n d) ty).before args s = true) (hlen : (Term.length (.static C n d)).eval args s none [] s = some (.int (Int32.ofNat (zaln k)))) (hel : ∀ j : Nat, j < zaln k → (Term.elem (.static C n d) (.int (Int32.ofNat j))).eval args s none [] s = some (.int (zkon k j))) (hA : ∀ a : Nat, a < s.heap.size → ¬ A a) : ∃ t : Nat, va_Z C n d (.ref t) A s s.heap ∧ va_T ty t (zaln k) (fun j => .int (zkon k j)) A s s.heap := by
  obtain ⟨t, h1, h2⟩ := va_Tof (f := fun j => .int (zkon k j)) hN harr hlen hel hA
  exact ⟨t, va_Zref (hts _ hl) (hts _ hi) h1 hA, h2⟩
theorem k80_first {A : Nat → Prop} (hts : ∀ w ∈ lw_tbl, w.before args s = true) (hgv : (Jvm.Cond.and given_1 narrow_1).before args s = true) (hA : ∀ a : Nat, a < s.heap.size → ¬ A a) : ∃ t : Nat, va_Z RX0 "ABOVE" "[I" (.ref t) A s s.heap ∧ va_T .int t (zaln 80) (fun j => .int (zkon 80 j)) A s s.heap := by
  refine kT_first hts (by decide) (tw_in (u := 2073) (by decide +kernel)) (tw_in (u := 1008) (by decide +kernel)) (nw_at hgv 5 rfl) (va_eqt (nw_at hgv 6 rfl)) (fun j hj => ?_) hA
  have hj : j < 6 := hj
  rcases (by omega : j = 0 ∨ j = 1 ∨ j = 2 ∨ j = 3 ∨ j = 4 ∨ j = 5) with rfl | rfl | rfl | rfl | rfl | rfl
  · exact va_eqt (nw_at hgv 7 rfl)
  · exact va_eqt (nw_at hgv 8 rfl)
  · exact va_eqt (nw_at hgv 9 rfl)
  · exact va_eqt (nw_at hgv 10 rfl)
  · exact va_eqt (nw_at hgv 11 rfl)
  · exact va_eqt (nw_at hgv 12 rfl)
theorem k81_first {A : Nat → Prop} (hts : ∀ w ∈ lw_tbl, w.before args s = true) (hgv : (Jvm.Cond.and given_1 narrow_1).before args s = true) (hA : ∀ a : Nat, a < s.heap.size → ¬ A a) : ∃ t : Nat, va_Z RX5 "LOWEST" "[I" (.ref t) A s s.heap ∧ va_T .int t (zaln 81) (fun j => .int (zkon 81 j)) A s s.heap := by
  refine kT_first hts (by decide) (tw_in (u := 2109) (by decide +kernel)) (tw_in (u := 1004) (by decide +kernel)) (nw_at hgv 14 rfl) (va_eqt (nw_at hgv 15 rfl)) (fun j hj => ?_) hA
  have hj : j < 6 := hj
  rcases (by omega : j = 0 ∨ j = 1 ∨ j = 2 ∨ j = 3 ∨ j = 4 ∨ j = 5) with rfl | rfl | rfl | rfl | rfl | rfl
  · exact va_eqt (nw_at hgv 16 rfl)
  · exact va_eqt (nw_at hgv 17 rfl)
  · exact va_eqt (nw_at hgv 18 rfl)
  · exact va_eqt (nw_at hgv 19 rfl)
  · exact va_eqt (nw_at hgv 20 rfl)
  · exact va_eqt (nw_at hgv 21 rfl)
theorem k82_first {A : Nat → Prop} (hts : ∀ w ∈ lw_tbl, w.before args s = true) (hgv : (Jvm.Cond.and given_1 narrow_1).before args s = true) (hA : ∀ a : Nat, a < s.heap.size → ¬ A a) : ∃ t : Nat, va_Z RX5 "HIGHEST" "[I" (.ref t) A s s.heap ∧ va_T .int t (zaln 82) (fun j => .int (zkon 82 j)) A s s.heap := by
  refine kT_first hts (by decide) (tw_in (u := 2111) (by decide +kernel)) (tw_in (u := 1004) (by decide +kernel)) (nw_at hgv 23 rfl) (va_eqt (nw_at hgv 24 rfl)) (fun j hj => ?_) hA
  have hj : j < 6 := hj
  rcases (by omega : j = 0 ∨ j = 1 ∨ j = 2 ∨ j = 3 ∨ j = 4 ∨ j = 5) with rfl | rfl | rfl | rfl | rfl | rfl
  · exact va_eqt (nw_at hgv 25 rfl)
  · exact va_eqt (nw_at hgv 26 rfl)
  · exact va_eqt (nw_at hgv 27 rfl)
  · exact va_eqt (nw_at hgv 28 rfl)
  · exact va_eqt (nw_at hgv 29 rfl)
  · exact va_eqt (nw_at hgv 30 rfl)
theorem k83_first {A : Nat → Prop} (hts : ∀ w ∈ lw_tbl, w.before args s = true) (hgv : (Jvm.Cond.and given_1 narrow_1).before args s = true) (hA : ∀ a : Nat, a < s.heap.size → ¬ A a) : ∃ t : Nat, va_Z RX2 "NAMES_BY_KEY" "[C" (.ref t) A s s.heap ∧ va_T .char t (zaln 83) (fun j => .int (zkon 83 j)) A s s.heap := by
  refine kT_first hts (by decide) (tw_in (u := 3188) (by decide +kernel)) (tw_in (u := 1002) (by decide +kernel)) (nw_at hgv 37 rfl) (va_eqt (nw_at hgv 38 rfl)) (fun j hj => ?_) hA
  have hj : j < 9 := hj
  rcases (by omega : j = 0 ∨ j = 1 ∨ j = 2 ∨ j = 3 ∨ j = 4 ∨ j = 5 ∨ j = 6 ∨ j = 7 ∨ j = 8) with rfl | rfl | rfl | rfl | rfl | rfl | rfl | rfl | rfl
  · exact va_eqt (nw_at hgv 39 rfl)
  · exact va_eqt (nw_at hgv 40 rfl)
  · exact va_eqt (nw_at hgv 41 rfl)
  · exact va_eqt (nw_at hgv 42 rfl)
  · exact va_eqt (nw_at hgv 43 rfl)
  · exact va_eqt (nw_at hgv 44 rfl)
  · exact va_eqt (nw_at hgv 45 rfl)
  · exact va_eqt (nw_at hgv 46 rfl)
  · exact va_eqt (nw_at hgv 47 rfl)
theorem cn_first {A : Nat → Prop} {b L : Nat} {xs : Nat → Int32} (hts : ∀ w ∈ lw_tbl, w.before args s = true) (hgv : (Jvm.Cond.and given_1 narrow_1).before args s = true) (hL : L ≤ 3072) (hX : va_X b L xs s s.heap) (hb : b < s.heap.size) (hA : ∀ a : Nat, a < s.heap.size → ¬ A a) : ∃ (t0 t1 t2 t3 : Nat) (adK adV : Nat → Nat), ∀ ad : Nat → Nat, ad 80 = t0 → ad 81 = t1 → ad 82 = t2 → ad 83 = t3 → ad 84 = b → ad 86 = adK 0 → ad 87 = adK 1 → ad 88 = adK 2 → zcn ad adV A (zI xs L) s s.heap := by
  obtain ⟨t0, q0⟩ := k80_first hts hgv hA
  obtain ⟨t1, q1⟩ := k81_first hts hgv hA
  obtain ⟨t2, q2⟩ := k82_first hts hgv hA
  obtain ⟨t3, q3⟩ := k83_first hts hgv hA
  obtain ⟨adK, adV, hS, hE⟩ := kS_first hgv hA
  refine ⟨t0, t1, t2, t3, adK, adV, fun ad e0 e1 e2 e3 e4 e5 e6 e7 => ⟨fun q hq => ?_, fun q hq => ?_, ?_, ⟨?_, ?_⟩, ⟨?_, ?_, ?_, ?_⟩, (ne_first hts).1⟩⟩
  · simp only [zstc, List.mem_cons, List.not_mem_nil, or_false] at hq
    rcases hq with rfl | rfl | rfl | rfl
    · show va_Z RX0 "ABOVE" "[I" (.ref (ad 80)) A s s.heap ∧ va_T .int (ad 80) (zaln 80) (fun j => .int (zkon 80 j)) A s s.heap
      rw [e0]; exact q0
    · show va_Z RX5 "LOWEST" "[I" (.ref (ad 81)) A s s.heap ∧ va_T .int (ad 81) (zaln 81) (fun j => .int (zkon 81 j)) A s s.heap
      rw [e1]; exact q1
    · show va_Z RX5 "HIGHEST" "[I" (.ref (ad 82)) A s s.heap ∧ va_T .int (ad 82) (zaln 82) (fun j => .int (zkon 82 j)) A s s.heap
      rw [e2]; exact q2
    · show va_Z RX2 "NAMES_BY_KEY" "[C" (.ref (ad 83)) A s s.heap ∧ va_T .char (ad 83) (zaln 83) (fun j => .int (zkon 83 j)) A s s.heap
      rw [e3]; exact q3
  · simp only [zlit, List.mem_cons, List.not_mem_nil, or_false] at hq
    rcases hq with rfl | rfl | rfl
    · show vk_R RX2 81 "toll" (ad 86) s
      rw [e5]; exact vk_R.of (hts _ (tw_in (u := 3088) (by decide +kernel))) (hE 0 (by decide))
    · show vk_R RX2 89 "pull" (ad 87) s
      rw [e6]; exact vk_R.of (hts _ (tw_in (u := 3141) (by decide +kernel))) (hE 1 (by decide))
    · show vk_R RX2 91 "fine" (ad 88) s
      rw [e7]; exact vk_R.of (hts _ (tw_in (u := 3142) (by decide +kernel))) (hE 2 (by decide))
  · have ek : ∀ i, i < 3 → ad (86 + i) = adK i := by
      intro i hi
      rcases (by omega : i = 0 ∨ i = 1 ∨ i = 2) with rfl | rfl | rfl
      · exact e5
      · exact e6
      · exact e7
    refine ⟨fun i hi => ?_, fun i j hi hj e => ?_⟩
    · have h := hS.1 i hi
      rw [← ek i hi] at h
      exact h
    · have e2 : ad (86 + i) = ad (86 + j) := e
      rw [ek i hi, ek j hj] at e2
      exact hS.2 i j hi hj e2
  · exact va_Zof (hts _ (tw_in (u := 3102) (by decide +kernel))) (hts _ (tw_in (u := 1012) (by decide +kernel))) (va_eqt (nw_at hgv 31 rfl)) hA
  · exact va_Zqof (hts _ (tw_in (u := 3118) (by decide +kernel))) (hts _ (tw_in (u := 1014) (by decide +kernel))) (nw_at hgv 32 rfl) hA
  · rw [e4]
    show va_X b (zix (nI L)) xs s s.heap
    rw [zix_nI (by omega)]; exact hX
  · show Int32.ofNat (zix (nI L)) = nI L
    rw [zix_nI (by omega)]; rfl
  · rw [e4]; exact hb
  · rw [e4]; exact hA _ hb
end
