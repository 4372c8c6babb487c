/-! a method's run as equations, an instruction each -/
def zR (d y : Nat) (Q : Option Value → zH → Prop) (pc : Nat) (lv : zL) (st : zS) (h : zH) : Prop := zX0 (zM d) (zcod y) Q pc lv st h
theorem zR_unf (d y : Nat) (Q : Option Value → zH → Prop) (pc : Nat) (lv : zL) (st : zS) (h : zH) : zR d y Q pc lv st h = zSx (zM d) (zcod y) (zR d y Q) Q pc lv st h := zX0_unf (zM_mono d)
theorem zM_R {d y : Nat} {as : List Value} {h : zH} {Q : Option Value → zH → Prop} (hy : y < 1000) {lv : zL} (ha : zargB (zyL y) y as = true) (he : zent as (zyL y) = lv) : zM (d + 1) y as h Q = zR d y Q 0 lv [] h := by
  subst he
  rw [zM_S]
  apply propext
  constructor
  · intro q; exact (q.2 hy).2
  · intro q; exact ⟨fun z => absurd hy (by omega), fun _ => ⟨ha, q⟩⟩
section
variable {d y pc : Nat} {Q : Option Value → zH → Prop} {lv lv' : zL} {st st' : zS} {h h' : zH} {en : zE} {pc' p1 p2 : Nat}
theorem q_go {o : Option zO} (hc : zcod y pc = some en) (hn : znx en lv st h = o) : zR d y Q pc lv st h = zgo (zM d) (zR d y Q) Q h o := by
  rw [zR_unf]
  unfold zSx
  rw [hc]
  simp only
  rw [hn]
theorem q_in (hc : zcod y pc = some en) (hn : znx en lv st h = some (.inl (pc', lv', st', h'))) : zR d y Q pc lv st h = zR d y Q pc' lv' st' h' := q_go hc hn
theorem zif_t {c : Prop} (hc : c) (o : Option zO) : zif c o = o := by unfold zif; rw [if_pos hc]
theorem q_and {c : Prop} (hc : zcod y pc = some en) (hn : znx en lv st h = zif c (some (.inl (pc', lv', st', h')))) : zR d y Q pc lv st h = (c ∧ zR d y Q pc' lv' st' h') := by
  rw [q_go hc hn]
  apply propext
  constructor
  · intro q; exact zif_x q
  · intro q; rw [zif_t q.1]; exact q.2
theorem zR_ite {c : Prop} [Decidable c] : zR d y Q (if c then p1 else p2) lv st h = if c then zR d y Q p1 lv st h else zR d y Q p2 lv st h := by
  split <;> rfl
theorem q_if {c : Prop} [Decidable c] (hc : zcod y pc = some en) (hn : znx en lv st h = some (.inl (if c then p1 else p2, lv', st', h'))) : zR d y Q pc lv st h = if c then zR d y Q p1 lv' st' h' else zR d y Q p2 lv' st' h' := by
  rw [q_in hc hn, zR_ite]
theorem q_cl {c : Prop} {a : Nat} {as : List Value} {rest : zS} (hc : zcod y pc = some en) (hn : znx en lv st h = zif c (some (.inr (.inl (pc', a, as, lv', rest))))) : zR d y Q pc lv st h = (c ∧ zM d a as h (fun r h' => zR d y Q pc' lv' (r.toList ++ rest) h')) := by
  rw [q_go hc hn]
  apply propext
  constructor
  · intro q; exact zif_x q
  · intro q; rw [zif_t q.1]; exact q.2
theorem q_clS {c : Prop} {a : Nat} {as : List Value} {rest : zS} (hc : zcod y pc = some en) (hn : znx en lv st h = zif c (some (.inr (.inl (pc', a, as, lv', rest))))) (ht : c) : zR d y Q pc lv st h = zM d a as h (fun r h' => zR d y Q pc' lv' (r.toList ++ rest) h') := by
  rw [q_cl hc hn]
  exact propext ⟨fun q => q.2, fun q => ⟨ht, q⟩⟩
theorem q_clV {c c2 : Prop} {a : Nat} {as : List Value} {rest : zS} (hc : zcod y pc = some en) (hn : znx en lv st h = zif c (zif c2 (some (.inr (.inl (pc', a, as, lv', rest)))))) (ht : c) : zR d y Q pc lv st h = (c2 ∧ zM d a as h (fun r h' => zR d y Q pc' lv' (r.toList ++ rest) h')) := by
  rw [zif_t ht] at hn
  exact q_cl hc hn
theorem q_ret {v : Option Value} (hc : zcod y pc = some en) (hn : znx en lv st h = some (.inr (.inr v))) : zR d y Q pc lv st h = Q v h := q_go hc hn
theorem q_retz {c : Prop} {v : Option Value} (hc : zcod y pc = some en) (hn : znx en lv st h = zif c (some (.inr (.inr v)))) (ht : c) : zR d y Q pc lv st h = Q v h := by
  rw [zif_t ht] at hn
  exact q_ret hc hn
theorem q_retc {c : Prop} {v : Option Value} (hc : zcod y pc = some en) (hn : znx en lv st h = zif c (some (.inr (.inr v)))) : zR d y Q pc lv st h = (c ∧ Q v h) := by
  rw [q_go hc hn]
  apply propext
  constructor
  · intro q; exact zif_x q
  · intro q; rw [zif_t q.1]; exact q.2
/-- an element read -/
def zal (c : Nat) (i : Int32) (h : zH) (k : Int32 → Prop) : Prop := match zcls c with
  | 10 => zok i (zaln c) ∧ k (h c (zix i))
  | 20 => zok i (zaln c) ∧ k (zkon c (zix i))
  | 21 => zok i (zix (h 85 0)) ∧ k (h 84 (zix i))
  | _ => False
/-- an element written -/
def zas (c : Nat) (i x : Int32) (h : zH) (k : zH → Prop) : Prop := (zcls c = 10 ∧ zok i (zaln c)) ∧ k (zhr h c (upd (h c) (zix i) x))
def zan (c : Nat) (h : zH) (k : Int32 → Prop) : Prop := match zcls c with
  | 10 => k (Int32.ofNat (zaln c))
  | 22 => k (Int32.ofNat (zaln c))
  | 21 => k (h 85 0)
  | _ => False
def zaa (c : Nat) (i : Int32) (k : Nat → Prop) : Prop := match zcls c with
  | 11 => zok i 4 ∧ k (35 + 2 * zix i)
  | 12 => zok i 5 ∧ k (44 + 3 * zix i)
  | _ => False
theorem zgo_zif {c : Prop} {o : Option zO} {P : Nat → zL → zS → zH → Prop} : zgo (zM d) P Q h (zif c o) = (c ∧ zgo (zM d) P Q h o) := by
  apply propext
  constructor
  · intro q; exact zif_x q
  · intro q; rw [zif_t q.1]; exact q.2
theorem q_iald {i : Int32} {c : Nat} {r : zS} {a b dd : Nat} {v : Int32} {ks : List (Int32 × Nat)} (hc : zcod y pc = some (pc, .iaload, a, b, dd, v, ks)) : zR d y Q pc lv (.int i :: .ref c :: r) h = zal c i h (fun w => zR d y Q (pc + 1) lv (.int w :: r) h) := by
  rw [q_go hc rfl]
  simp only [znx, zp1R, zal]
  by_cases h1 : zcls c = 10
  · simp only [h1]; exact zgo_zif
  · by_cases h2 : zcls c = 20
    · simp only [h2]; exact zgo_zif
    · by_cases h3 : zcls c = 21
      · simp only [h3]; exact zgo_zif
      · split <;> first | (rename_i q; exact absurd q (by assumption)) | (split <;> first | (rename_i q; exact absurd q (by assumption)) | rfl)
theorem q_iast {x i : Int32} {c : Nat} {r : zS} {a b dd : Nat} {v : Int32} {ks : List (Int32 × Nat)} (hc : zcod y pc = some (pc, .iastore, a, b, dd, v, ks)) : zR d y Q pc lv (.int x :: .int i :: .ref c :: r) h = zas c i x h (fun h' => zR d y Q (pc + 1) lv r h') := q_and hc rfl
theorem q_alen {c : Nat} {r : zS} {a b dd : Nat} {v : Int32} {ks : List (Int32 × Nat)} (hc : zcod y pc = some (pc, .arraylength, a, b, dd, v, ks)) : zR d y Q pc lv (.ref c :: r) h = zan c h (fun w => zR d y Q (pc + 1) lv (.int w :: r) h) := by
  rw [q_go hc rfl]
  simp only [znx, zpR, zan]
  by_cases h1 : zcls c = 10
  · simp only [h1]; rfl
  · by_cases h2 : zcls c = 22
    · simp only [h2]; rfl
    · by_cases h3 : zcls c = 21
      · simp only [h3]; rfl
      · split <;> first | (rename_i q; exact absurd q (by assumption)) | (split <;> first | (rename_i q; exact absurd q (by assumption)) | rfl)
theorem q_aald {i : Int32} {c : Nat} {r : zS} {a b dd : Nat} {v : Int32} {ks : List (Int32 × Nat)} (hc : zcod y pc = some (pc, .aaload, a, b, dd, v, ks)) : zR d y Q pc lv (.int i :: .ref c :: r) h = zaa c i (fun w => zR d y Q (pc + 1) lv (.ref w :: r) h) := by
  rw [q_go hc rfl]
  simp only [znx, zp1R, zaa]
  by_cases h1 : zcls c = 11
  · simp only [h1]; exact zgo_zif
  · by_cases h2 : zcls c = 12
    · simp only [h2]; exact zgo_zif
    · split <;> first | (rename_i q; exact absurd q (by assumption)) | (split <;> first | (rename_i q; exact absurd q (by assumption)) | rfl)
end
