/-! THE TAPE read: words and signs, then E's parts: one mathematical reader for both worlds -/
/-- the byte at a place; -1 behind the end -/
def pxB (T : Nat → Int32) (L i : Nat) : Int32 := if i < L then T i else -1
def pxV (B : Nat → Int32) (L : Nat) : Prop := L ≤ 96 ∧ (∀ i, L ≤ i → B i = -1) ∧ ∀ i, i < L → 0 ≤ B i ∧ B i ≤ 255
def pxSo (b : Int32) : Int32 := if 97 ≤ b ∧ b ≤ 122 then -2 else if 48 ≤ b ∧ b ≤ 57 then -3 else b
def pxSk (B : Nat → Int32) : Nat → Nat → Nat
  | 0, p => p
  | g + 1, p => if B p = 32 then pxSk B g (p + 1) else p
def pxWe (B : Nat → Int32) (so : Int32) : Nat → Nat → Nat
  | 0, p => p
  | g + 1, p => if pxSo (B p) = so then pxWe B so g (p + 1) else p
abbrev pxS : Type := Nat × Nat × Int32 × Bool
abbrev pxR : Type := Nat ⊕ (pxS × List Int32 × Nat)
def pxW (so : Int32) : Bool := decide (so = -2) || decide (so = -3)
def pxSt (B : Nat → Int32) (L p : Nat) : Nat := pxSk B (L - p) p
def pxEn (B : Nat → Int32) (L st : Nat) : Nat := if pxW (pxSo (B st)) = true then pxWe B (pxSo (B st)) (L - (st + 1)) (st + 1) else if st < L then st + 1 else L
/-- the next word or sign -/
def pxNx (B : Nat → Int32) (L : Nat) (σ : pxS) : pxS := (pxSt B L σ.2.1, pxEn B L (pxSt B L σ.2.1), pxSo (B (pxSt B L σ.2.1)), pxW σ.2.2.1 && pxW (pxSo (B (pxSt B L σ.2.1))) && decide (pxSt B L σ.2.1 = σ.2.1))
def pxNm (B : Nat → Int32) (st n : Nat) : Int32 := zfo (fun i a => a * 10 + (B (st + i) - 48)) n 0
def pxNa (key : Nat) (b : Int32) : Int32 := if b = zkon 83 (3 * key) then 0 else if b = zkon 83 (3 * key + 1) then 1 else if b = zkon 83 (3 * key + 2) then 2 else -1
def pxNi (B : Nat → Int32) (key : Nat) (σ : pxS) : Int32 := if σ.2.1 - σ.1 = 1 then pxNa key (B σ.1) else -1
def pxMu (s : Int32) : Bool := decide (s = 42) || decide (s = 47)
def pxPl (s : Int32) : Bool := decide (s = 43) || decide (s = 45)
def pxCm (s : Int32) : Bool := decide (s = 60) || decide (s = 61) || decide (s = 62)
def pxAn (s : Int32) : Bool := decide (s = 38)
def pxOr (s : Int32) : Bool := decide (s = 124)
def pxLp (nx : pxS → pxS) (P : pxS → pxR) (op : Int32 → Bool) : Nat → pxS → List Int32 → Nat → pxR
  | 0, σ, ws, k => .inr (σ, ws, k)
  | g + 1, σ, ws, k => if op σ.2.2.1 = true then (match P (nx σ) with
    | .inl e => .inl e
    | .inr (σ1, w1, k1) => pxLp nx P op g σ1 (ws ++ w1 ++ [-σ.2.2.1]) (k + k1)) else .inr (σ, ws, k)
def pxLv (nx : pxS → pxS) (P : pxS → pxR) (op : Int32 → Bool) (σ : pxS) : pxR := match P σ with
  | .inl e => .inl e
  | .inr (σ1, w1, k1) => pxLp nx P op 96 σ1 w1 k1
def pxTs (nx : pxS → pxS) (P : pxS → pxR) (σ : pxS) : pxR := match P σ with
  | .inl e => .inl e
  | .inr (σ1, w1, k1) => if pxCm σ1.2.2.1 = true then (match P (nx σ1) with
    | .inl e => .inl e
    | .inr (σ2, w2, k2) => .inr (σ2, w1 ++ w2 ++ [-σ1.2.2.1], k1 + k2)) else .inr (σ1, w1, k1)
def pxE (nx : pxS → pxS) (P : pxS → pxR) : pxS → pxR := pxLv nx (pxLv nx (pxTs nx (pxLv nx (pxLv nx P pxMu) pxPl)) pxAn) pxOr
/-- a PIECE: so many open, so many nots -/
def pxPc (B : Nat → Int32) (L key : Nat) : Nat → Nat → Nat → pxS → pxR
  | 0, _, _, σ => .inl σ.1
  | f + 1, o, n, σ =>
    if σ.2.2.1 = -3 ∧ σ.2.2.2 = false then (if σ.2.1 - σ.1 ≤ 4 then .inr (pxNx B L σ, [pxNm B σ.1 (σ.2.1 - σ.1)], 1) else .inl σ.1)
    else if σ.2.2.1 = -2 ∧ σ.2.2.2 = false then (if pxNi B key σ = -1 then .inl σ.1 else .inr (pxNx B L σ, [-1 - pxNi B key σ], 1))
    else if σ.2.2.1 = 33 ∧ n < 8 then (match pxPc B L key f o (n + 1) (pxNx B L σ) with
      | .inl e => .inl e
      | .inr (σ1, w1, k1) => .inr (σ1, w1 ++ [-33], k1))
    else if σ.2.2.1 = 40 ∧ o < 8 then (match pxE (pxNx B L) (pxPc B L key f (o + 1) n) (pxNx B L σ) with
      | .inl e => .inl e
      | .inr (σ1, w1, k1) => if σ1.2.2.1 = 41 then .inr (pxNx B L σ1, w1, k1) else .inl σ1.1)
    else .inl σ.1
/-- words run on a stack so high: none where it is too low -/
def pxGo : List Int32 → Nat → Option Nat
  | [], t => some t
  | w :: ws, t => if w < -3 then (if w = -33 then (if 1 ≤ t then pxGo ws t else none) else (if 2 ≤ t then pxGo ws (t - 1) else none)) else pxGo ws (t + 1)
/-- where a word or sign stands rightly -/
def pxG (B : Nat → Int32) (L : Nat) (σ : pxS) : Prop := σ.1 ≤ L ∧ σ.2.1 ≤ L ∧ (σ.1 < L → σ.1 < σ.2.1) ∧ σ.2.2.1 = pxSo (B σ.1) ∧ σ.2.1 = pxEn B L σ.1
def pxPo (B : Nat → Int32) (L st0 : Nat) (r : pxR) : Prop := (∀ e, r = .inl e → e ≤ L) ∧ ∀ σ' ws k, r = .inr (σ', ws, k) → pxG B L σ' ∧ st0 + ws.length ≤ σ'.1 ∧ ∀ t, pxGo ws t = some (t + 1)
def pxPr (B : Nat → Int32) (L : Nat) (P : pxS → pxR) : Prop := ∀ σ, pxG B L σ → pxPo B L σ.1 (P σ)
section
variable {B : Nat → Int32} {L key f o n g k e st0 : Nat} {σ σ' : pxS} {ws : List Int32} {P : pxS → pxR} {op : Int32 → Bool} {r : pxR}
theorem pxSk_le : ∀ g p, p ≤ pxSk B g p ∧ pxSk B g p ≤ p + g
  | 0, p => ⟨Nat.le_refl _, Nat.le_refl _⟩
  | g + 1, p => by
    unfold pxSk
    split
    · have := pxSk_le g (p + 1); omega
    · omega
theorem pxWe_le {so : Int32} : ∀ g p, p ≤ pxWe B so g p ∧ pxWe B so g p ≤ p + g
  | 0, p => ⟨Nat.le_refl _, Nat.le_refl _⟩
  | g + 1, p => by
    unfold pxWe
    split
    · have := pxWe_le (so := so) g (p + 1); omega
    · omega
theorem pxSo_m1 : pxSo (-1) = -1 := by decide
theorem pxSo_end (hV : pxV B L) (h : L ≤ k) : pxSo (B k) = -1 := by rw [hV.2.1 k h]; rfl
theorem pxSt_le {p : Nat} (h : p ≤ L) : p ≤ pxSt B L p ∧ pxSt B L p ≤ L := by
  have := pxSk_le (B := B) (L - p) p
  unfold pxSt
  omega
theorem pxNx_G (hV : pxV B L) (h : σ.2.1 ≤ L) : pxG B L (pxNx B L σ) ∧ σ.2.1 ≤ (pxNx B L σ).1 := by
  obtain ⟨a, b⟩ := pxSt_le (B := B) h
  refine ⟨⟨b, ?_, ?_, rfl, rfl⟩, a⟩
  · show pxEn B L (pxSt B L σ.2.1) ≤ L
    unfold pxEn
    split
    · rename_i q
      have hl : pxSt B L σ.2.1 < L := by
        rcases Nat.lt_or_ge (pxSt B L σ.2.1) L with z | z
        · exact z
        · rw [pxSo_end hV z] at q
          exact absurd q (by decide)
      have := pxWe_le (B := B) (so := pxSo (B (pxSt B L σ.2.1))) (L - (pxSt B L σ.2.1 + 1)) (pxSt B L σ.2.1 + 1)
      omega
    · split <;> omega
  · intro hl
    have hl : pxSt B L σ.2.1 < L := hl
    show pxSt B L σ.2.1 < pxEn B L (pxSt B L σ.2.1)
    unfold pxEn
    split
    · have := pxWe_le (B := B) (so := pxSo (B (pxSt B L σ.2.1))) (L - (pxSt B L σ.2.1 + 1)) (pxSt B L σ.2.1 + 1)
      omega
    · first | omega | (rw [if_pos hl]; omega)
theorem pxG_lt (hV : pxV B L) (hG : pxG B L σ) (h : ¬ σ.2.2.1 = -1) : σ.1 < L ∧ σ.1 < σ.2.1 := by
  have hl : σ.1 < L := by
    rcases Nat.lt_or_ge σ.1 L with z | z
    · exact z
    · exact absurd (by rw [hG.2.2.2.1, pxSo_end hV z]) h
  exact ⟨hl, hG.2.2.1 hl⟩
theorem pxNx_up (hV : pxV B L) (hG : pxG B L σ) (h : ¬ σ.2.2.1 = -1) : pxG B L (pxNx B L σ) ∧ σ.1 + 1 ≤ (pxNx B L σ).1 := by
  have a := pxG_lt hV hG h
  have b := pxNx_G hV hG.2.1
  exact ⟨b.1, by have := b.2; omega⟩
theorem pxGo_app : ∀ (a b : List Int32) (t : Nat), pxGo (a ++ b) t = (pxGo a t).bind (pxGo b)
  | [], _, _ => rfl
  | w :: a, b, t => by
    have ih := pxGo_app a b
    simp only [List.cons_append, pxGo]
    split
    · split
      · split
        · exact ih _
        · rfl
      · split
        · exact ih _
        · rfl
    · exact ih _
theorem pxGo_two {a b : List Int32} {s : Int32} (ha : ∀ t, pxGo a t = some (t + 1)) (hb : ∀ t, pxGo b t = some (t + 1)) (hs : zsgn s) (t : Nat) : pxGo (a ++ b ++ [-s]) t = some (t + 1) := by
  obtain ⟨h1, h2, h3, h4⟩ := zsgn_lo hs
  rw [pxGo_app, pxGo_app, ha, Option.bind_some, hb, Option.bind_some]
  simp only [pxGo, if_pos h1, if_neg h3]
  rw [if_pos (by omega)]
  rfl
theorem pxMu_s {s : Int32} (h : pxMu s = true) : zsgn s := by
  simp only [pxMu, Bool.or_eq_true, decide_eq_true_eq] at h
  unfold zsgn
  rcases h with h | h <;> simp [h]
theorem pxPl_s {s : Int32} (h : pxPl s = true) : zsgn s := by
  simp only [pxPl, Bool.or_eq_true, decide_eq_true_eq] at h
  unfold zsgn
  rcases h with h | h <;> simp [h]
theorem pxCm_s {s : Int32} (h : pxCm s = true) : zsgn s := by
  simp only [pxCm, Bool.or_eq_true, decide_eq_true_eq] at h
  unfold zsgn
  rcases h with (h | h) | h <;> simp [h]
theorem pxAn_s {s : Int32} (h : pxAn s = true) : zsgn s := by
  simp only [pxAn, decide_eq_true_eq] at h
  unfold zsgn
  simp [h]
theorem pxOr_s {s : Int32} (h : pxOr s = true) : zsgn s := by
  simp only [pxOr, decide_eq_true_eq] at h
  unfold zsgn
  simp [h]
theorem zsgn_m1 {s : Int32} (h : zsgn s) : ¬ s = -1 := by
  rcases h with rfl | rfl | rfl | rfl | rfl | rfl | rfl | rfl | rfl <;> decide
theorem pxPo_l (h : e ≤ L) : pxPo B L st0 (.inl e) := ⟨fun e' q => (by cases q; exact h), fun _ _ _ q => (by cases q)⟩
theorem pxPo_r (h1 : pxG B L σ) (h2 : st0 + ws.length ≤ σ.1) (h3 : ∀ t, pxGo ws t = some (t + 1)) : pxPo B L st0 (.inr (σ, ws, k)) := ⟨fun _ q => (by cases q), fun _ _ _ q => (by cases q; exact ⟨h1, h2, h3⟩)⟩
theorem pxLp_pr (hV : pxV B L) (hP : pxPr B L P) (hop : ∀ s, op s = true → zsgn s) (st0 : Nat) : ∀ (g : Nat) (σ : pxS) (ws : List Int32) (k : Nat), pxG B L σ → st0 + ws.length ≤ σ.1 → (∀ t, pxGo ws t = some (t + 1)) → pxPo B L st0 (pxLp (pxNx B L) P op g σ ws k)
  | 0, σ, ws, k, h1, h2, h3 => pxPo_r h1 h2 h3
  | g + 1, σ, ws, k, h1, h2, h3 => by
    unfold pxLp
    by_cases q : op σ.2.2.1 = true
    · rw [if_pos q]
      have hs := hop _ q
      obtain ⟨a, b⟩ := pxNx_up hV h1 (zsgn_m1 hs)
      have hp := hP _ a
      cases hr : P (pxNx B L σ) with
      | inl e => exact pxPo_l (hp.1 _ hr)
      | inr v =>
        obtain ⟨σ1, w1, k1⟩ := v
        obtain ⟨c1, c2, c3⟩ := hp.2 _ _ _ hr
        refine pxLp_pr hV hP hop st0 g σ1 _ _ c1 ?_ (pxGo_two h3 c3 hs)
        simp only [List.length_append, List.length_cons, List.length_nil]
        omega
    · rw [if_neg q]
      exact pxPo_r h1 h2 h3
theorem pxLv_pr (hV : pxV B L) (hP : pxPr B L P) (hop : ∀ s, op s = true → zsgn s) : pxPr B L (pxLv (pxNx B L) P op) := by
  intro σ hG
  have hp := hP σ hG
  unfold pxLv
  cases hr : P σ with
  | inl e => exact pxPo_l (hp.1 _ hr)
  | inr v =>
    obtain ⟨σ1, w1, k1⟩ := v
    obtain ⟨c1, c2, c3⟩ := hp.2 _ _ _ hr
    exact pxLp_pr hV hP hop σ.1 96 σ1 w1 k1 c1 c2 c3
theorem pxTs_pr (hV : pxV B L) (hP : pxPr B L P) : pxPr B L (pxTs (pxNx B L) P) := by
  intro σ hG
  have hp := hP σ hG
  unfold pxTs
  cases hr : P σ with
  | inl e => exact pxPo_l (hp.1 _ hr)
  | inr v =>
    obtain ⟨σ1, w1, k1⟩ := v
    obtain ⟨c1, c2, c3⟩ := hp.2 _ _ _ hr
    dsimp only
    by_cases q : pxCm σ1.2.2.1 = true
    · rw [if_pos q]
      have hs := pxCm_s q
      obtain ⟨a, b⟩ := pxNx_up hV c1 (zsgn_m1 hs)
      have hp2 := hP _ a
      cases hr2 : P (pxNx B L σ1) with
      | inl e => exact pxPo_l (hp2.1 _ hr2)
      | inr v2 =>
        obtain ⟨σ2, w2, k2⟩ := v2
        obtain ⟨e1, e2, e3⟩ := hp2.2 _ _ _ hr2
        refine pxPo_r e1 ?_ (pxGo_two c3 e3 hs)
        simp only [List.length_append, List.length_cons, List.length_nil]
        omega
    · rw [if_neg q]
      exact pxPo_r c1 c2 c3
theorem pxE_pr (hV : pxV B L) (hP : pxPr B L P) : pxPr B L (pxE (pxNx B L) P) :=
  pxLv_pr hV (pxLv_pr hV (pxTs_pr hV (pxLv_pr hV (pxLv_pr hV hP (fun _ => pxMu_s)) (fun _ => pxPl_s))) (fun _ => pxAn_s)) (fun _ => pxOr_s)
theorem pxNm_nI (hd : ∀ i, i < n → 48 ≤ B (k + i) ∧ B (k + i) ≤ 57) : n ≤ 4 → ∃ m, m < 10 ^ n ∧ pxNm B k n = nI m := by
  induction n with
  | zero => intro _; exact ⟨0, by decide, rfl⟩
  | succ n ih =>
    intro h4
    obtain ⟨m, hm, e⟩ := ih (fun i hi => hd i (by omega)) (by omega)
    obtain ⟨b1, b2⟩ := hd n (by omega)
    obtain ⟨j, hj, ej⟩ := nI_of2 (x := B (k + n)) (M := 57) (n := 57) (by decide) (by grind) b2
    have j48 : 48 ≤ j := by
      rw [ej] at b1
      exact (nI_leI (a := 48) (b := j) (by omega) (by omega)).mp b1
    refine ⟨m * 10 + (j - 48), by rw [Nat.pow_succ]; omega, ?_⟩
    show pxNm B k n * 10 + (B (k + n) - 48) = _
    rw [e, ej, show (48 : Int32) = nI 48 from rfl, show (10 : Int32) = nI 10 from rfl, pk_sub j48, pk_mul, nI_add]
theorem pxWe_all {so : Int32} : ∀ g p i, p ≤ i → i < pxWe B so g p → pxSo (B i) = so
  | 0, p, i, h1, h2 => by
    have : i < p := h2
    omega
  | g + 1, p, i, h1, h2 => by
    unfold pxWe at h2
    by_cases q : pxSo (B p) = so
    · rw [if_pos q] at h2
      by_cases e : i = p
      · rw [e]; exact q
      · exact pxWe_all g (p + 1) i (by omega) h2
    · rw [if_neg q] at h2
      omega
theorem pxSo_3 {b : Int32} (h : pxSo b = -3) (h0 : ¬ b = -3) : 48 ≤ b ∧ b ≤ 57 := by
  unfold pxSo at h
  split at h
  · exact absurd h (by decide)
  · split at h
    · assumption
    · exact absurd h h0
theorem pxSo_2 {b : Int32} (h : pxSo b = -2) (h0 : ¬ b = -2) : 97 ≤ b ∧ b ≤ 122 := by
  unfold pxSo at h
  split at h
  · assumption
  · split at h
    · exact absurd h (by decide)
    · exact absurd h h0
theorem pxV_lo (hV : pxV B L) (i : Nat) : ¬ B i = -3 ∧ ¬ B i = -2 := by
  rcases Nat.lt_or_ge i L with q | q
  · have := (hV.2.2 i q).1
    constructor <;> intro z <;> rw [z] at this <;> exact absurd this (by decide)
  · rw [hV.2.1 i q]; decide
theorem pxDig (hV : pxV B L) (hG : pxG B L σ) (h : σ.2.2.1 = -3) : ∀ i, i < σ.2.1 - σ.1 → 48 ≤ B (σ.1 + i) ∧ B (σ.1 + i) ≤ 57 := by
  obtain ⟨g1, g2, g3, g4, g5⟩ := hG
  rw [g4] at h
  intro i hi
  refine pxSo_3 ?_ (pxV_lo hV _).1
  by_cases e : i = 0
  · subst e; exact h
  · rw [g5] at hi
    unfold pxEn at hi
    rw [h] at hi
    rw [if_pos (by decide)] at hi
    exact pxWe_all (L - (σ.1 + 1)) (σ.1 + 1) (σ.1 + i) (by omega) (by omega)
theorem pxNa_in (b : Int32) : pxNa key b = -1 ∨ ∃ j, j < 3 ∧ pxNa key b = nI j ∧ b = zkon 83 (3 * key + j) := by
  unfold pxNa
  split
  · rename_i q; exact Or.inr ⟨0, by omega, rfl, q⟩
  · split
    · rename_i q; exact Or.inr ⟨1, by omega, rfl, q⟩
    · split
      · rename_i q; exact Or.inr ⟨2, by omega, rfl, q⟩
      · exact Or.inl rfl
theorem pxNi_in (B : Nat → Int32) (σ : pxS) : pxNi B key σ = -1 ∨ ∃ j, j < 3 ∧ pxNi B key σ = nI j ∧ B σ.1 = zkon 83 (3 * key + j) ∧ σ.2.1 - σ.1 = 1 := by
  unfold pxNi
  split
  · rename_i q
    rcases pxNa_in (key := key) (B σ.1) with e | ⟨j, e1, e2, e3⟩
    · exact Or.inl e
    · exact Or.inr ⟨j, e1, e2, e3, q⟩
  · exact Or.inl rfl
theorem pxName_lo {j : Nat} (h : j < 3) : ¬ (-1 - nI j < -3) := by
  rcases (by omega : j = 0 ∨ j = 1 ∨ j = 2) with rfl | rfl | rfl <;> decide
theorem pxPc_pr (hV : pxV B L) : ∀ f o n, pxPr B L (pxPc B L key f o n)
  | 0, o, n => fun σ hG => pxPo_l hG.1
  | f + 1, o, n => by
    intro σ hG
    unfold pxPc
    by_cases q1 : σ.2.2.1 = -3 ∧ σ.2.2.2 = false
    · rw [if_pos q1]
      by_cases q2 : σ.2.1 - σ.1 ≤ 4
      · rw [if_pos q2]
        obtain ⟨a, b⟩ := pxNx_up hV hG (by rw [q1.1]; decide)
        obtain ⟨m, hm, e⟩ := pxNm_nI (pxDig hV hG q1.1) q2
        have hm2 : m < 2 ^ 31 := Nat.lt_of_lt_of_le hm (Nat.le_trans (Nat.pow_le_pow_right (by omega) q2) (by omega))
        refine pxPo_r a (by simpa using b) (fun t => ?_)
        have : ¬ pxNm B σ.1 (σ.2.1 - σ.1) < -3 := by
          rw [e]
          have := nI_pos hm2
          grind
        simp only [pxGo, if_neg this]
      · rw [if_neg q2]; exact pxPo_l hG.1
    · rw [if_neg q1]
      by_cases q2 : σ.2.2.1 = -2 ∧ σ.2.2.2 = false
      · rw [if_pos q2]
        by_cases q3 : pxNi B key σ = -1
        · rw [if_pos q3]; exact pxPo_l hG.1
        · rw [if_neg q3]
          obtain ⟨a, b⟩ := pxNx_up hV hG (by rw [q2.1]; decide)
          rcases pxNi_in (key := key) B σ with e | ⟨j, e1, e2, -, -⟩
          · exact absurd e q3
          · refine pxPo_r a (by simpa using b) (fun t => ?_)
            have := pxName_lo e1
            rw [← e2] at this
            simp only [pxGo, if_neg this]
      · rw [if_neg q2]
        by_cases q3 : σ.2.2.1 = 33 ∧ n < 8
        · rw [if_pos q3]
          obtain ⟨a, b⟩ := pxNx_up hV hG (by rw [q3.1]; decide)
          have hp := pxPc_pr hV f o (n + 1) _ a
          cases hr : pxPc B L key f o (n + 1) (pxNx B L σ) with
          | inl e => exact pxPo_l (hp.1 _ hr)
          | inr v =>
            obtain ⟨σ1, w1, k1⟩ := v
            obtain ⟨c1, c2, c3⟩ := hp.2 _ _ _ hr
            refine pxPo_r c1 ?_ (fun t => ?_)
            · simp only [List.length_append, List.length_cons, List.length_nil]
              omega
            · rw [pxGo_app, c3, Option.bind_some]
              simp (decide := true) only [pxGo, ↓reduceIte]
              rw [if_pos (by omega)]
        · rw [if_neg q3]
          by_cases q4 : σ.2.2.1 = 40 ∧ o < 8
          · rw [if_pos q4]
            obtain ⟨a, b⟩ := pxNx_up hV hG (by rw [q4.1]; decide)
            have hp := pxE_pr hV (pxPc_pr hV f (o + 1) n) _ a
            cases hr : pxE (pxNx B L) (pxPc B L key f (o + 1) n) (pxNx B L σ) with
            | inl e => exact pxPo_l (hp.1 _ hr)
            | inr v =>
              obtain ⟨σ1, w1, k1⟩ := v
              obtain ⟨c1, c2, c3⟩ := hp.2 _ _ _ hr
              dsimp only
              by_cases q5 : σ1.2.2.1 = 41
              · rw [if_pos q5]
                obtain ⟨a2, b2⟩ := pxNx_up hV c1 (by rw [q5]; decide)
                exact pxPo_r a2 (by omega) c3
              · rw [if_neg q5]; exact pxPo_l c1.1
          · rw [if_neg q4]; exact pxPo_l hG.1
/-- what runs on a stack, word by word -/
def pxD (t : Nat) (w : Nat → Int32) : Nat → Nat
  | 0 => t
  | i + 1 => if w i < -3 then (if w i = -33 then pxD t w i else pxD t w i - 1) else pxD t w i + 1
theorem pxD_0 (w : Nat → Int32) : ∀ i, pxD 0 w i = wTp w i
  | 0 => rfl
  | i + 1 => by unfold pxD wTp; rw [pxD_0 w i]
theorem pxD_sh (t : Nat) (w : Nat → Int32) : ∀ i, pxD t w (i + 1) = pxD (pxD t w 1) (fun j => w (j + 1)) i
  | 0 => rfl
  | i + 1 => by
    have ih := pxD_sh t w i
    show (if w (i + 1) < -3 then (if w (i + 1) = -33 then pxD t w (i + 1) else pxD t w (i + 1) - 1) else pxD t w (i + 1) + 1) = _
    rw [ih]
    rfl
theorem pxD_go : ∀ (ws : List Int32) (t r : Nat) (w : Nat → Int32), (∀ i, i < ws.length → w i = ws.getD i 0) → pxGo ws t = some r → (∀ i, i < ws.length → w i < -3 → (w i = -33 → 1 ≤ pxD t w i) ∧ (¬ w i = -33 → 2 ≤ pxD t w i)) ∧ pxD t w ws.length = r
  | [], t, r, w, _, h => ⟨fun i hi => absurd hi (Nat.not_lt_zero i), by cases h; rfl⟩
  | x :: ws, t, r, w, hw, h => by
    have w0 : w 0 = x := hw 0 (by simp)
    have key : ∀ t', pxD t w 1 = t' → pxGo ws t' = some r → (∀ i, i < ws.length → w (i + 1) < -3 → (w (i + 1) = -33 → 1 ≤ pxD t w (i + 1)) ∧ (¬ w (i + 1) = -33 → 2 ≤ pxD t w (i + 1))) ∧ pxD t w (ws.length + 1) = r := by
      intro t' e1 e2
      obtain ⟨a, b⟩ := pxD_go ws t' r (fun j => w (j + 1)) (fun i hi => by
        have := hw (i + 1) (by simpa using hi)
        simpa using this) e2
      refine ⟨fun i hi => ?_, ?_⟩
      · rw [pxD_sh, e1]; exact a i hi
      · rw [pxD_sh, e1]; exact b
    have fin : ∀ t', pxD t w 1 = t' → pxGo ws t' = some r → (w 0 < -3 → (w 0 = -33 → 1 ≤ t) ∧ (¬ w 0 = -33 → 2 ≤ t)) → (∀ i, i < (x :: ws).length → w i < -3 → (w i = -33 → 1 ≤ pxD t w i) ∧ (¬ w i = -33 → 2 ≤ pxD t w i)) ∧ pxD t w (x :: ws).length = r := by
      intro t' e1 e2 e3
      obtain ⟨a, b⟩ := key t' e1 e2
      refine ⟨fun i hi => ?_, b⟩
      match i, hi with
      | 0, _ => exact e3
      | i + 1, hi => exact a i (by simpa using hi)
    have d1 : pxD t w 1 = if w 0 < -3 then (if w 0 = -33 then t else t - 1) else t + 1 := rfl
    rw [w0] at d1 fin
    unfold pxGo at h
    by_cases q1 : x < -3
    · rw [if_pos q1] at h d1
      by_cases q2 : x = -33
      · rw [if_pos q2] at h d1
        by_cases q3 : 1 ≤ t
        · rw [if_pos q3] at h
          exact fin _ d1 h (fun _ => ⟨fun _ => q3, fun z => absurd q2 z⟩)
        · rw [if_neg q3] at h; cases h
      · rw [if_neg q2] at h d1
        by_cases q3 : 2 ≤ t
        · rw [if_pos q3] at h
          exact fin _ d1 h (fun _ => ⟨fun z => absurd z q2, fun _ => q3⟩)
        · rw [if_neg q3] at h; cases h
    · rw [if_neg q1] at h d1
      exact fin _ d1 h (fun z => absurd z q1)
theorem px_wWF {w : Nat → Int32} (hw : ∀ i, i < ws.length → w i = ws.getD i 0) (h : ∀ t, pxGo ws t = some (t + 1)) : wWF w ws.length := by
  obtain ⟨a, b⟩ := pxD_go ws 0 1 w hw (h 0)
  refine ⟨fun i hi => ?_, ?_⟩
  · have := a i hi
    rwa [pxD_0] at this
  · rwa [pxD_0] at b
end
