/-! methods by depth -/
theorem zent1_def (vs : List Value) : vs.flatMap (fun v => if v.category = 2 then [some v, none] else [some v]) = zent1 vs := rfl
/-- the arguments fit a method: so many locals; longs in one method alone -/
def zargB (n y : Nat) (as : List Value) : Bool := Nat.ble (zent1 as).length n && (Nat.beq y 106 || as.all (fun v => Nat.beq v.category 1))
def zM (d : Nat) (y : Nat) (as : List Value) (h : zH) (Q : Option Value → zH → Prop) : Prop := match d with
  | 0 => False
  | d + 1 => (1000 ≤ y → zbi d y as h Q) ∧ (y < 1000 → zargB (zyL y) y as = true ∧ zX0 (zM d) (zcod y) Q 0 (zent as (zyL y)) [] h)
theorem zM_mono : ∀ (d : Nat) (y : Nat) (a : List Value) (h : zH) (Q Q' : Option Value → zH → Prop), (∀ r h, Q r h → Q' r h) → zM d y a h Q → zM d y a h Q'
  | 0, _, _, _, _, _, _, hg => by unfold zM at hg; exact hg.elim
  | d + 1, y, a, h, Q, Q', hQ, hg => by
    unfold zM at hg ⊢
    exact ⟨fun q => zbi_mono hQ (hg.1 q), fun q => ⟨(hg.2 q).1, zX0_mono (zM_mono d) hQ (hg.2 q).2⟩⟩
theorem zM_0 (y : Nat) (as : List Value) (h : zH) (Q : Option Value → zH → Prop) : zM 0 y as h Q = False := rfl
theorem zM_S (d y : Nat) (as : List Value) (h : zH) (Q : Option Value → zH → Prop) : zM (d + 1) y as h Q = ((1000 ≤ y → zbi d y as h Q) ∧ (y < 1000 → zargB (zyL y) y as = true ∧ zX0 (zM d) (zcod y) Q 0 (zent as (zyL y)) [] h)) := rfl
