theorem zcls_of {c k : Nat} (hk : 12 < k) (h99 : k ≠ 99) (h : zcls c = k) : c < 89 := by
  by_cases h2 : c < 89
  · exact h2
  · exfalso
    have : zcls c = 99 := by
      unfold zcls
      rw [List.getD_eq_getElem?_getD, List.getElem?_eq_none (by simp [zShA]; omega)]; rfl
    omega
theorem zcls_20 {c : Nat} (h : zcls c = 20) : c = 80 ∨ c = 81 ∨ c = 82 := by
  have hc := zcls_of (by omega) (by omega) h
  have key : ∀ k : Fin 89, zcls k.val = 20 → (k.val = 80 ∨ k.val = 81 ∨ k.val = 82) := by decide
  exact key ⟨c, hc⟩ h
theorem zcls_21 {c : Nat} (h : zcls c = 21) : c = 84 := by
  have hc := zcls_of (by omega) (by omega) h
  have key : ∀ k : Fin 89, zcls k.val = 21 → k.val = 84 := by decide
  exact key ⟨c, hc⟩ h
theorem zcls_22 {c : Nat} (h : zcls c = 22) : c = 83 := by
  have hc := zcls_of (by omega) (by omega) h
  have key : ∀ k : Fin 89, zcls k.val = 22 → k.val = 83 := by decide
  exact key ⟨c, hc⟩ h
theorem zcls_23 {c : Nat} (h : zcls c = 23) : ∃ i, i < 3 ∧ c = 86 + i := by
  have hc := zcls_of (by omega) (by omega) h
  have key : ∀ k : Fin 89, zcls k.val = 23 → (86 ≤ k.val) := by decide
  have := key ⟨c, hc⟩ h
  simp only at this
  exact ⟨c - 86, by omega, by omega⟩
section
variable {p : Program} {l : Launch} {e : Env} {R : Room} {s : State} {m : MethodId} {args : Array Value} {below : List Frame} {meth : Method} {c : Code} {cells slots : Nat} {Qf : State → Prop}
variable {ad : Nat → Nat} {D : va_G} {ca : Nat → ClassId} {adV : Nat → Nat} {A : Nat → Prop}
/-- what is known while a method runs, whichever it is -/
def zctx (p : Program) (R : Room) (s : State) (m : MethodId) (args : Array Value) (c : Code) (cells slots : Nat) (ad : Nat → Nat) (D : va_G) (ca : Nat → ClassId) (adV : Nat → Nat) (A : Nat → Prop) (h0 : zH) (own : String) (cc : ByteArray) (nL d : Nat) : Prop :=
  p.tables.exec = Jvm.exec ∧ c.code = cc ∧ c.maxLocals = nL ∧ s.vm.findClass own = some m.cls ∧ (∀ w ∈ zgt, w.before args s = true) ∧ va_K D zcl (zty ca) s ∧ (∀ h, va_D A (zwl ad ca h)) ∧ zcn ad adV A h0 s s.heap ∧ d ≤ R.frames ∧ 64 * d ≤ R.locals ∧ cells ≤ R.cells ∧ slots ≤ R.slots
theorem zctx_nest {h0 : zH} {own : String} {cc : ByteArray} {nL d : Nat} (K : zctx p R s m args c cells slots ad D ca adV A h0 own cc nL d) {w : Jvm.Cond} {u : Nat} (h : zN u w = true) : va_Nw w s := K.2.2.2.2.2.2.2.1.2.2.2.2.2 w (zN_in h).1 (zN_in h).2
theorem zctx_nestB {h0 : zH} {own : String} {cc : ByteArray} {nL d : Nat} (K : zctx p R s m args c cells slots ad D ca adV A h0 own cc nL d) {a : String} {i : Nat} {b n ds g : String} {u : Nat} (h : zN u (.fieldLinkNest a i b n ds g) = true) : (Cond.fieldLinkNest a i b n ds g).before args s = true := va_Nw.use rfl (zctx_nest K h)
/-- reading and writing a field -/
theorem zs_get {h0 h : zH} {own : String} {cc : ByteArray} {nL d : Nat} (K : zctx p R s m args c cells slots ad D ca adV A h0 own cc nL d) {u i a b x pc : Nat} {ls : Array Slot} {r : List Value} {H : Heap} {locs : List Loc} (hP : va_P D zcl (zwl ad ca h) H) (hF : zF u own i a b = true) (hc : zcls x = a) (hdg : decode cc pc = .ok (.getfield i, 3))
    (kk : W p l e R s m args below meth c H locs cells slots Qf (F0 m (pc + 3) ls (ztr ad (zfv h a b x) :: r))) : W p l e R s m args below meth c H locs cells slots Qf (F0 m pc ls (.ref (ad x) :: r)) := by
  obtain ⟨hx, hb, hml, hown, hts, hK, hD, hC, -⟩ := id K
  unfold zF at hF
  split at hF
  · rename_i q hq
    obtain ⟨ha, hn, ⟨ty0, hty⟩, hnm, hu⟩ := zcl_ok hq
    simp only [Bool.and_eq_true, Bool.or_eq_true, decide_eq_true_eq] at hF
    obtain ⟨⟨hbn, hdc⟩, hl⟩ := hF
    have hxl : x < 80 := zcls_lt (by omega)
    have he : (zwl ad ca h)[x]? = some (ad x, .inr (a, (List.range (znf a)).map (zfld ad h a x))) := by rw [zwl_get hxl, zenc_obj hc ha]
    have hv : ((List.range (znf a)).map (zfld ad h a x))[b]? = some (ztr ad (zfv h a b x)) := by
      rw [zfv_tr]
      simp [hn, hbn]
    have hsame : ∀ z, s.fieldFound? (q.2.1 b).1 (q.2.1 b).2.1 (q.2.1 b).2.2.1 = some z → s.fieldFound? q.1 (q.2.1 b).2.1 (q.2.1 b).2.2.1 = some z := by rw [hdc]; exact fun _ z => z
    rcases hl with hl | hl
    · exact va_get (C := q.1) (T := q.2.1) (N := q.2.2) hx hb hts hu hown hK hP x he hq b hbn (hts _ (zG_gt hl)) hsame hv hdg kk
    · exact va_getN (C := q.1) (T := q.2.1) (N := q.2.2) hx hb hts hu hown hK hP x he hq b hbn (zctx_nestB K hl) hsame hv hdg kk
  · cases hF
theorem zs_put {h0 h : zH} {own : String} {cc : ByteArray} {nL d : Nat} (K : zctx p R s m args c cells slots ad D ca adV A h0 own cc nL d) {u i a b dd x pc : Nat} {y : Int32} {ls : Array Slot} {r : List Value} {H : Heap} {locs : List Loc} (hP : va_P D zcl (zwl ad ca h) H) (hS : va_S A s.heap H locs) (hF : zF u own i a b = true) (hW : zFw a b dd = true) (hc : zcls x = a) (hy : dd = 0 ∨ y = 0 ∨ y = 1) (hdg : decode cc pc = .ok (.putfield i, 3))
    (kk : ∀ (H1 : Heap) (locs1 : List Loc), va_P D zcl (zwl ad ca (zhr h x (upd (h x) b y))) H1 → va_S A s.heap H1 locs1 → W p l e R s m args below meth c H1 locs1 cells slots Qf (F0 m (pc + 3) ls r)) : W p l e R s m args below meth c H locs cells slots Qf (F0 m pc ls (.int y :: .ref (ad x) :: r)) := by
  obtain ⟨hx, hb, hml, hown, hts, hK, hD, hC, -⟩ := id K
  unfold zF at hF
  unfold zFw at hW
  split at hF
  · rename_i q hq
    rw [hq] at hW
    obtain ⟨ha, hn, ⟨ty0, hty⟩, hnm, hu⟩ := zcl_ok hq
    simp only [Bool.and_eq_true, Bool.or_eq_true, decide_eq_true_eq] at hF hW
    obtain ⟨⟨hbn, hdc⟩, hl⟩ := hF
    obtain ⟨⟨hfin, hrf⟩, hd⟩ := hW
    have hxl : x < 80 := zcls_lt (by omega)
    have he : (zwl ad ca h)[x]? = some (ad x, .inr (a, (List.range (znf a)).map (zfld ad h a x))) := by rw [zwl_get hxl, zenc_obj hc ha]
    have hsame : ∀ z, s.fieldFound? (q.2.1 b).1 (q.2.1 b).2.1 (q.2.1 b).2.2.1 = some z → s.fieldFound? q.1 (q.2.1 b).2.1 (q.2.1 b).2.2.1 = some z := by rw [hdc]; exact fun _ z => z
    have hlen : b < ((List.range (znf a)).map (zfld ad h a x)).length := by simp [hn, hbn]
    have hset : (zwl ad ca h).set x (ad x, .inr (a, ((List.range (znf a)).map (zfld ad h a x)).set b (.int y))) = zwl ad ca (zhr h x (upd (h x) b y)) := by
      refine zwl_set hxl (fun c' n => zhr_ne h _ n) ?_
      rw [zenc_obj hc ha]
      congr 2
      apply List.ext_getElem?
      intro j
      by_cases hj : j < znf a
      · by_cases hjb : j = b
        · subst hjb
          rw [List.getElem?_set_self hlen]
          simp [hj, zfld, zrfo_any hrf, zhr_same, upd]
        · rw [List.getElem?_set_ne (Ne.symm hjb)]
          simp [hj, zfld, zhr_same, upd, hjb]
      · rw [List.getElem?_eq_none (by simp; omega), List.getElem?_eq_none (by simp; omega)]
    have kk' : ∀ (H1 : Heap) (locs1 : List Loc), va_P D zcl ((zwl ad ca h).set x (ad x, .inr (a, ((List.range (znf a)).map (zfld ad h a x)).set b (.int y)))) H1 → va_D A ((zwl ad ca h).set x (ad x, .inr (a, ((List.range (znf a)).map (zfld ad h a x)).set b (.int y)))) → va_S A s.heap H1 locs1 → W p l e R s m args below meth c H1 locs1 cells slots Qf (F0 m (pc + 3) ls r) := by
      rw [hset]
      exact fun H1 locs1 q1 _ q3 => kk H1 locs1 q1 q3
    have fin : ∀ ty, parseFieldDescriptor (q.2.1 b).2.2.1 = some ty → narrow ty (.int y) = .int y → fits ty (.int y) = true → W p l e R s m args below meth c H locs cells slots Qf (F0 m pc ls (.int y :: .ref (ad x) :: r)) := by
      intro ty h1 h2 h3
      rcases hl with hl | hl
      · exact va_put (C := q.1) (T := q.2.1) (N := q.2.2) hx hb hts hu ty0 hty hnm hown hK hP (hD h) hS x he hq b hbn (hts _ (zG_gt hl)) hsame hfin h1 h2 h3 hlen hdg kk'
      · exact va_putN (C := q.1) (T := q.2.1) (N := q.2.2) hx hb hts hu ty0 hty hnm hown hK hP (hD h) hS x he hq b hbn (zctx_nestB K hl) hsame hfin h1 h2 h3 hlen hdg kk'
    rcases hd with hd | ⟨hd1, hd2⟩
    · exact fin .int hd rfl rfl
    · have hy' : y = 0 ∨ y = 1 := by
        rcases hy with z | z
        · omega
        · exact z
      rcases hy' with rfl | rfl
      · exact fin .boolean hd2 (by decide) (by decide)
      · exact fin .boolean hd2 (by decide) (by decide)
  · cases hF
theorem zs_iald {h0 h : zH} {own : String} {cc : ByteArray} {nL d : Nat} (K : zctx p R s m args c cells slots ad D ca adV A h0 own cc nL d) (e84 : h 84 = h0 84 ∧ h 85 = h0 85) {x pc : Nat} {i : Int32} {ls : Array Slot} {r : List Value} {H : Heap} {locs : List Loc} (hP : va_P D zcl (zwl ad ca h) H) (hS : va_S A s.heap H locs) (hdg : decode cc pc = .ok (.iaload, 1)) (v : Int32)
    (hv : (zcls x = 10 ∧ zok i (zaln x) ∧ v = h x (zix i)) ∨ (zcls x = 20 ∧ zok i (zaln x) ∧ v = zkon x (zix i)) ∨ (zcls x = 21 ∧ zok i (zix (h 85 0)) ∧ v = h 84 (zix i)))
    (kk : W p l e R s m args below meth c H locs cells slots Qf (F0 m (pc + 1) ls (.int v :: r))) : W p l e R s m args below meth c H locs cells slots Qf (F0 m pc ls (.int i :: .ref (ad x) :: r)) := by
  obtain ⟨hx, hb, hml, hown, hts, hK, hD, hC, -⟩ := id K
  rcases hv with ⟨h1, h2, rfl⟩ | ⟨h1, h2, rfl⟩ | ⟨h1, h2, rfl⟩
  · exact va_iald hx hb hK hP x 0 (by rw [zwl_get (zcls_lt (by omega)), zenc_arr h1]) rfl (zok_in h2) hdg kk
  · have hx3 : x = 80 ∨ x = 81 ∨ x = 82 := zcls_20 h1
    rcases hx3 with rfl | rfl | rfl
    · exact va_ti hx hb (hC.1 (RX0, "ABOVE", "[I", .int, 80) (List.mem_of_getElem? (i := 0) rfl)).2 hS (zok_in h2) rfl hdg kk
    · exact va_ti hx hb (hC.1 (RX5, "LOWEST", "[I", .int, 81) (List.mem_of_getElem? (i := 1) rfl)).2 hS (zok_in h2) rfl hdg kk
    · exact va_ti hx hb (hC.1 (RX5, "HIGHEST", "[I", .int, 82) (List.mem_of_getElem? (i := 2) rfl)).2 hS (zok_in h2) rfl hdg kk
  · have hx3 : x = 84 := zcls_21 h1
    subst hx3
    obtain ⟨g1, g2, g3, g4⟩ := hC.2.2.2.2.1
    rw [e84.2] at h2
    rw [e84.1] at kk
    exact va_sld hx hb g1 g3 g4 hS (zok_in h2) hdg kk
end
