theorem zand_t {p q : Prop} (h : p) : (p ∧ q) = q := propext ⟨fun z => z.2, fun z => ⟨h, z⟩⟩
theorem zand_l {p q r : Prop} (h : p) : ((p ∧ q) ∧ r) = (q ∧ r) := propext ⟨fun z => ⟨z.1.2, z.2⟩, fun z => ⟨⟨h, z.1⟩, z.2⟩⟩
theorem zand_r {p q r : Prop} (h : q) : ((p ∧ q) ∧ r) = (p ∧ r) := propext ⟨fun z => ⟨z.1.1, z.2⟩, fun z => ⟨⟨z.1, h⟩, z.2⟩⟩
theorem zand_0 {p q r : Prop} : ((p ∧ ((0 : Nat) = 0 ∨ q)) ∧ r) = (p ∧ r) := propext ⟨fun z => ⟨z.1.1, z.2⟩, fun z => ⟨⟨z.1, Or.inl rfl⟩, z.2⟩⟩
theorem zand_b {c : Nat} {q r : Prop} : ((c = c ∧ ((1 : Nat) = 0 ∨ q)) ∧ r) = (q ∧ r) := propext ⟨fun z => ⟨z.1.2.elim (fun y => by cases y) id, z.2⟩, fun z => ⟨⟨rfl, Or.inr z.1⟩, z.2⟩⟩
