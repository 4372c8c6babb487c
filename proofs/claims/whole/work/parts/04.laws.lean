/-! laws of our machine: monotone, one step unfolded -/
theorem zgo_mono {cal : Nat → List Value → zH → (Option Value → zH → Prop) → Prop} (hc : ∀ y a h (Q Q' : Option Value → zH → Prop), (∀ r h, Q r h → Q' r h) → cal y a h Q → cal y a h Q') {P P' : Nat → zL → zS → zH → Prop} {Q Q' : Option Value → zH → Prop} (hP : ∀ pc lv st h, P pc lv st h → P' pc lv st h) (hQ : ∀ r h, Q r h → Q' r h) {h : zH} {o : Option zO} (hg : zgo cal P Q h o) : zgo cal P' Q' h o := by
  match o, hg with
  | some (.inl (pc, lv, st, h')), hg => exact hP _ _ _ _ hg
  | some (.inr (.inl (pc, y, args, lv, rest))), hg => exact hc _ _ _ _ _ (fun r h' q => hP _ _ _ _ q) hg
  | some (.inr (.inr v)), hg => exact hQ _ _ hg
theorem zSx_mono {cal : Nat → List Value → zH → (Option Value → zH → Prop) → Prop} (hc : ∀ y a h (Q Q' : Option Value → zH → Prop), (∀ r h, Q r h → Q' r h) → cal y a h Q → cal y a h Q') {code : Nat → Option zE} {P P' : Nat → zL → zS → zH → Prop} {Q Q' : Option Value → zH → Prop} (hP : ∀ pc lv st h, P pc lv st h → P' pc lv st h) (hQ : ∀ r h, Q r h → Q' r h) {pc : Nat} {lv : zL} {st : zS} {h : zH} (hg : zSx cal code P Q pc lv st h) : zSx cal code P' Q' pc lv st h := by
  unfold zSx at hg ⊢
  split
  · rename_i e; rw [e] at hg; exact hg
  · rename_i e he; rw [he] at hg; exact zgo_mono hc hP hQ hg
theorem zX0_in {cal : Nat → List Value → zH → (Option Value → zH → Prop) → Prop} (hc : ∀ y a h (Q Q' : Option Value → zH → Prop), (∀ r h, Q r h → Q' r h) → cal y a h Q → cal y a h Q') {code : Nat → Option zE} {Q : Option Value → zH → Prop} {pc : Nat} {lv : zL} {st : zS} {h : zH} (hg : zSx cal code (zX0 cal code Q) Q pc lv st h) : zX0 cal code Q pc lv st h := by
  intro P hP
  exact hP _ _ _ _ (zSx_mono hc (fun pc lv st h q => q P hP) (fun _ _ q => q) hg)
theorem zX0_out {cal : Nat → List Value → zH → (Option Value → zH → Prop) → Prop} (hc : ∀ y a h (Q Q' : Option Value → zH → Prop), (∀ r h, Q r h → Q' r h) → cal y a h Q → cal y a h Q') {code : Nat → Option zE} {Q : Option Value → zH → Prop} {pc : Nat} {lv : zL} {st : zS} {h : zH} (hg : zX0 cal code Q pc lv st h) : zSx cal code (zX0 cal code Q) Q pc lv st h :=
  hg (fun pc lv st h => zSx cal code (zX0 cal code Q) Q pc lv st h) (fun pc lv st h q => zSx_mono hc (fun pc lv st h q => zX0_in hc q) (fun _ _ q => q) q)
theorem zX0_unf {cal : Nat → List Value → zH → (Option Value → zH → Prop) → Prop} (hc : ∀ y a h (Q Q' : Option Value → zH → Prop), (∀ r h, Q r h → Q' r h) → cal y a h Q → cal y a h Q') {code : Nat → Option zE} {Q : Option Value → zH → Prop} {pc : Nat} {lv : zL} {st : zS} {h : zH} : zX0 cal code Q pc lv st h = zSx cal code (zX0 cal code Q) Q pc lv st h := propext ⟨zX0_out hc, zX0_in hc⟩
theorem zX0_mono {cal : Nat → List Value → zH → (Option Value → zH → Prop) → Prop} (hc : ∀ y a h (Q Q' : Option Value → zH → Prop), (∀ r h, Q r h → Q' r h) → cal y a h Q → cal y a h Q') {code : Nat → Option zE} {Q Q' : Option Value → zH → Prop} (hQ : ∀ r h, Q r h → Q' r h) {pc : Nat} {lv : zL} {st : zS} {h : zH} (hg : zX0 cal code Q pc lv st h) : zX0 cal code Q' pc lv st h :=
  hg (fun pc lv st h => zX0 cal code Q' pc lv st h) (fun pc lv st h q => zX0_in hc (zSx_mono hc (fun _ _ _ _ q => q) hQ q))
theorem zbi_mono {d y : Nat} {args : List Value} {h : zH} {Q Q' : Option Value → zH → Prop} (hQ : ∀ r h, Q r h → Q' r h) (hg : zbi d y args h Q) : zbi d y args h Q' := by
  unfold zbi at hg ⊢
  split at hg
  · split at hg
    · exact hQ _ _ hg
    · exact hg
  · split at hg
    · exact hQ _ _ hg
    · exact hg
  · split at hg
    · exact hQ _ _ hg
    · exact hg
  · unfold zcopy at hg ⊢
    split at hg
    · exact ⟨hg.1, hQ _ _ hg.2⟩
    · exact hg
  · split at hg
    · exact ⟨hg.1, hQ _ _ hg.2⟩
    · exact hg
  · split at hg
    · exact ⟨hg.1, hQ _ _ hg.2⟩
    · exact hg
  · exact hg.elim
theorem zM0_mono {cod : Nat → Nat → Option zE} {nL : Nat → Nat} : ∀ (d : Nat) (y : Nat) (a : List Value) (h : zH) (Q Q' : Option Value → zH → Prop), (∀ r h, Q r h → Q' r h) → zM0 cod nL d y a h Q → zM0 cod nL d y a h Q'
  | 0, _, _, _, _, _, _, hg => hg.elim
  | d + 1, y, a, h, Q, Q', hQ, hg => ⟨fun q => zbi_mono hQ (hg.1 q), fun q => zX0_mono (zM0_mono d) hQ (hg.2 q)⟩
