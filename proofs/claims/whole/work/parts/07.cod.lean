/-! all code tables in one; methods by number (300: the law) -/
def zcA0 : List (List zE) := [zc0, zc1, zc2, zc3, zc4, zc5, zc6, zc7, zc8, zc9, zc10, zc11, zc12, zc13, zc14, zc15, zc16, zc17, zc18, zc19]
def zcA1 : List (List zE) := [zc20, zc21, zc22, zc23, zc24, zc25, zc26, zc27, zc28, zc29, zc30, zc31, zc32, zc33, zc34, zc35, zc36, zc37, zc38, zc39]
def zcA2 : List (List zE) := [zc40, zc41, zc42, zc43, zc44, zc45, zc46, zc47, zc48, zc49, zc50, zc51, zc52, zc53, zc54, zc55, zc56, zc57, zc58, zc59]
def zcA3 : List (List zE) := [zc60, zc61, zc62, zc63, zc64, zc65, zc66, zc67, zc68, zc69, zc70, zc71, zc72, zc73, zc74, zc75, zc76, zc77, zc78, zc79]
def zcA4 : List (List zE) := [zc80, zc81, zc82, zc83, zc84, zc85, zc86, zc87, zc88, zc89, zc90, zc91, zc92, zc93, zc94, zc95, zc96, zc97, zc98, zc99]
def zcA5 : List (List zE) := [zc100, zc101, zc102, zc103, zc104, zc105, zc106, zc107, zc108, zc109, zc110, zc111, zc112, zc113, zc114, zc115, zc116, zc117, zc118, zc119]
def zcA6 : List (List zE) := [zc120, zc121, zc122, zc123, zc124, zc125, zc126, zc127, zc128, zc129, zc130, zc131, zc132, zc133, zc134, zc135, zc136, zc137, zc138, zc139]
def zcA7 : List (List zE) := [zc140, zc141, zc142, zc143, zc144, zc145, zc146, zc147, zc148, zc149, zc150, zc151, zc152, zc153, zc154, zc155, zc156, zc157, zc158, zc159]
def zcA8 : List (List zE) := [zc160, zc161, zc162, zc163, zc164, zc165, zc166, zc167, zc168, zc169, zc170, zc171, zc172, zc173, zc174, zc175, zc176, zc177, zc178, zc179]
def zcA9 : List (List zE) := [zc180, zc181, zc182, zc183, zc184, zc185, zc186, zc187, zc188, zc189, zc190, zc191, zc192, zc193, zc194, zc195, zc196, zc197, zc198, zc199]
def zcA10 : List (List zE) := [zc200, zc201]
def zcq (y : Nat) : List zE := (([zcA0, zcA1, zcA2, zcA3, zcA4, zcA5, zcA6, zcA7, zcA8, zcA9, zcA10] : List (List (List zE))).getD (y / 20) []).getD (y % 20) []
/-- looking an entry up -/
def zfind (pc : Nat) : List zE → Option zE
  | [] => none
  | e :: l => if Nat.beq e.1 pc = true then some e else zfind pc l
def zcod (y pc : Nat) : Option zE := if Nat.beq y 300 = true then zfind pc zc300 else zfind pc (zcq y)
theorem zyT_len : zyT.length = 202 := by decide +kernel
theorem zfind_in {pc : Nat} {e : zE} : ∀ {l : List zE}, zfind pc l = some e → e ∈ l ∧ e.1 = pc
  | [], h => by cases h
  | a :: l, h => by
    unfold zfind at h
    split at h
    · rename_i q; cases h; exact ⟨List.mem_cons_self, Nat.eq_of_beq_eq_true q⟩
    · obtain ⟨h1, h2⟩ := zfind_in h; exact ⟨List.mem_cons_of_mem _ h1, h2⟩
theorem zchk_at {own : String} {cc : ByteArray} {nL : Nat} {nol : Bool} {rk : Option FieldType} : ∀ {l : List zE} {us : List Nat}, zchk own cc nL nol rk l us = true → ∀ e ∈ l, decode cc e.1 = .ok (e.2.1, zlen e.2.1 e.2.2.2.1) ∧ ∃ u, zlk own nL nol rk u e = true
  | [], _, _, e, he => by cases he
  | a :: l, [], h, e, he => by cases h
  | a :: l, u :: us, h, e, he => by
    simp only [zchk, Bool.and_eq_true, decide_eq_true_eq] at h
    rcases List.mem_cons.mp he with rfl | he
    · exact ⟨h.1.1, u, h.1.2⟩
    · exact zchk_at h.2 e he
theorem zmoks_at : ∀ {us : List (Nat × Nat × Nat × Nat)} {l : List (MethodName × ByteArray × Nat × Option FieldType × Nat × Bool)}, zmoks us l = true → ∀ q ∈ l, ∃ u, zmok u q = true
  | _, [], _, q, hq => by cases hq
  | [], _ :: _, h, q, hq => by cases h
  | u :: us, a :: l, h, q, hq => by
    simp only [zmoks, Bool.and_eq_true] at h
    rcases List.mem_cons.mp hq with rfl | hq
    · exact ⟨u, h.1⟩
    · exact zmoks_at h.2 q hq
theorem zmok_all : ∀ q ∈ zyT, ∃ u, zmok u q = true := by
  intro q hq
  unfold zyT at hq
  simp only [List.mem_append] at hq
  rcases hq with ((((((h | h) | h) | h) | h) | h) | h) | h
  · exact zmoks_at zmok_0 q h
  · exact zmoks_at zmok_1 q h
  · exact zmoks_at zmok_2 q h
  · exact zmoks_at zmok_3 q h
  · exact zmoks_at zmok_4 q h
  · exact zmoks_at zmok_5 q h
  · exact zmoks_at zmok_6 q h
  · exact zmoks_at zmok_7 q h
/-- the table of a method fits the method: its own class, bytes, locals, long arguments or none, result -/
def zfit0 (own : String) (cc : ByteArray) (nL : Nat) (nol : Bool) (rk : Option FieldType) (l : List zE) : Prop := ∀ e ∈ l, decode cc e.1 = .ok (e.2.1, zlen e.2.1 e.2.2.2.1) ∧ ∃ u, zlk own nL nol rk u e = true
theorem zfit0_app {own : String} {cc : ByteArray} {nL : Nat} {nol : Bool} {rk : Option FieldType} {l1 l2 : List zE} (h1 : zfit0 own cc nL nol rk l1) (h2 : zfit0 own cc nL nol rk l2) : zfit0 own cc nL nol rk (l1 ++ l2) := fun e he => (List.mem_append.mp he).elim (h1 e) (h2 e)
def zfit (y : Nat) (l : List zE) : Prop := ∃ nol : Bool, (nol = true → y ≠ 106) ∧ zfit0 (zyN y).cls (zyB y) (zyL y) nol (zyQ y) l
theorem zft0 : ∀ i, i < 20 → zfit (0 + i) (zcA0.getD i []) := by
  intro i hi
  match i, hi with
  | 0, _ => exact ⟨true, (fun _ => by decide), fun e he => zchk_at zk0 e he⟩
  | 1, _ => exact ⟨true, (fun _ => by decide), fun e he => zchk_at zk1 e he⟩
  | 2, _ => exact ⟨true, (fun _ => by decide), fun e he => zchk_at zk2 e he⟩
  | 3, _ => exact ⟨true, (fun _ => by decide), fun e he => zchk_at zk3 e he⟩
  | 4, _ => exact ⟨true, (fun _ => by decide), fun e he => zchk_at zk4 e he⟩
  | 5, _ => exact ⟨true, (fun _ => by decide), fun e he => zchk_at zk5 e he⟩
  | 6, _ => exact ⟨true, (fun _ => by decide), fun e he => zchk_at zk6 e he⟩
  | 7, _ => exact ⟨true, (fun _ => by decide), fun e he => zchk_at zk7 e he⟩
  | 8, _ => exact ⟨true, (fun _ => by decide), fun e he => zchk_at zk8 e he⟩
  | 9, _ => exact ⟨true, (fun _ => by decide), fun e he => zchk_at zk9 e he⟩
  | 10, _ => exact ⟨true, (fun _ => by decide), fun e he => zchk_at zk10 e he⟩
  | 11, _ => exact ⟨true, (fun _ => by decide), fun e he => zchk_at zk11 e he⟩
  | 12, _ => exact ⟨true, (fun _ => by decide), fun e he => zchk_at zk12 e he⟩
  | 13, _ => exact ⟨true, (fun _ => by decide), fun e he => zchk_at zk13 e he⟩
  | 14, _ => exact ⟨true, (fun _ => by decide), fun e he => zchk_at zk14 e he⟩
  | 15, _ => exact ⟨true, (fun _ => by decide), fun e he => zchk_at zk15 e he⟩
  | 16, _ => exact ⟨true, (fun _ => by decide), fun e he => zchk_at zk16 e he⟩
  | 17, _ => exact ⟨true, (fun _ => by decide), fun e he => zchk_at zk17 e he⟩
  | 18, _ => exact ⟨true, (fun _ => by decide), fun e he => zchk_at zk18 e he⟩
  | 19, _ => exact ⟨true, (fun _ => by decide), fun e he => zchk_at zk19 e he⟩
  | k + 20, hi => exact absurd hi (by omega)
theorem zft1 : ∀ i, i < 20 → zfit (20 + i) (zcA1.getD i []) := by
  intro i hi
  match i, hi with
  | 0, _ => exact ⟨true, (fun _ => by decide), fun e he => zchk_at zk20 e he⟩
  | 1, _ => exact ⟨true, (fun _ => by decide), fun e he => zchk_at zk21 e he⟩
  | 2, _ => exact ⟨true, (fun _ => by decide), fun e he => zchk_at zk22 e he⟩
  | 3, _ => exact ⟨true, (fun _ => by decide), fun e he => zchk_at zk23 e he⟩
  | 4, _ => exact ⟨true, (fun _ => by decide), fun e he => zchk_at zk24 e he⟩
  | 5, _ => exact ⟨true, (fun _ => by decide), fun e he => zchk_at zk25 e he⟩
  | 6, _ => exact ⟨true, (fun _ => by decide), fun e he => zchk_at zk26 e he⟩
  | 7, _ => exact ⟨true, (fun _ => by decide), fun e he => zchk_at zk27 e he⟩
  | 8, _ => exact ⟨true, (fun _ => by decide), fun e he => zchk_at zk28 e he⟩
  | 9, _ => exact ⟨true, (fun _ => by decide), fun e he => zchk_at zk29 e he⟩
  | 10, _ => exact ⟨true, (fun _ => by decide), fun e he => zchk_at zk30 e he⟩
  | 11, _ => exact ⟨true, (fun _ => by decide), fun e he => zchk_at zk31 e he⟩
  | 12, _ => exact ⟨true, (fun _ => by decide), fun e he => zchk_at zk32 e he⟩
  | 13, _ => exact ⟨true, (fun _ => by decide), fun e he => zchk_at zk33 e he⟩
  | 14, _ => exact ⟨true, (fun _ => by decide), fun e he => zchk_at zk34 e he⟩
  | 15, _ => exact ⟨true, (fun _ => by decide), fun e he => zchk_at zk35 e he⟩
  | 16, _ => exact ⟨true, (fun _ => by decide), fun e he => zchk_at zk36 e he⟩
  | 17, _ => exact ⟨true, (fun _ => by decide), fun e he => zchk_at zk37 e he⟩
  | 18, _ => exact ⟨true, (fun _ => by decide), fun e he => zchk_at zk38 e he⟩
  | 19, _ => exact ⟨true, (fun _ => by decide), fun e he => zchk_at zk39 e he⟩
  | k + 20, hi => exact absurd hi (by omega)
theorem zft2 : ∀ i, i < 20 → zfit (40 + i) (zcA2.getD i []) := by
  intro i hi
  match i, hi with
  | 0, _ => exact ⟨true, (fun _ => by decide), fun e he => zchk_at zk40 e he⟩
  | 1, _ => exact ⟨true, (fun _ => by decide), fun e he => zchk_at zk41 e he⟩
  | 2, _ => exact ⟨true, (fun _ => by decide), fun e he => zchk_at zk42 e he⟩
  | 3, _ => exact ⟨true, (fun _ => by decide), fun e he => zchk_at zk43 e he⟩
  | 4, _ => exact ⟨true, (fun _ => by decide), fun e he => zchk_at zk44 e he⟩
  | 5, _ => exact ⟨true, (fun _ => by decide), fun e he => zchk_at zk45 e he⟩
  | 6, _ => exact ⟨true, (fun _ => by decide), fun e he => zchk_at zk46 e he⟩
  | 7, _ => exact ⟨true, (fun _ => by decide), fun e he => zchk_at zk47 e he⟩
  | 8, _ => exact ⟨true, (fun _ => by decide), fun e he => zchk_at zk48 e he⟩
  | 9, _ => exact ⟨true, (fun _ => by decide), fun e he => zchk_at zk49 e he⟩
  | 10, _ => exact ⟨true, (fun _ => by decide), fun e he => zchk_at zk50 e he⟩
  | 11, _ => exact ⟨true, (fun _ => by decide), fun e he => zchk_at zk51 e he⟩
  | 12, _ => exact ⟨true, (fun _ => by decide), fun e he => zchk_at zk52 e he⟩
  | 13, _ => exact ⟨true, (fun _ => by decide), fun e he => zchk_at zk53 e he⟩
  | 14, _ => exact ⟨true, (fun _ => by decide), fun e he => zchk_at zk54 e he⟩
  | 15, _ => exact ⟨true, (fun _ => by decide), fun e he => zchk_at zk55 e he⟩
  | 16, _ => exact ⟨true, (fun _ => by decide), fun e he => zchk_at zk56 e he⟩
  | 17, _ => exact ⟨true, (fun _ => by decide), fun e he => zchk_at zk57 e he⟩
  | 18, _ => exact ⟨true, (fun _ => by decide), fun e he => zchk_at zk58 e he⟩
  | 19, _ => exact ⟨true, (fun _ => by decide), fun e he => zchk_at zk59 e he⟩
  | k + 20, hi => exact absurd hi (by omega)
theorem zft3 : ∀ i, i < 20 → zfit (60 + i) (zcA3.getD i []) := by
  intro i hi
  match i, hi with
  | 0, _ => exact ⟨true, (fun _ => by decide), fun e he => zchk_at zk60 e he⟩
  | 1, _ => exact ⟨true, (fun _ => by decide), fun e he => zchk_at zk61 e he⟩
  | 2, _ => exact ⟨true, (fun _ => by decide), fun e he => zchk_at zk62 e he⟩
  | 3, _ => exact ⟨true, (fun _ => by decide), fun e he => zchk_at zk63 e he⟩
  | 4, _ => exact ⟨true, (fun _ => by decide), fun e he => zchk_at zk64 e he⟩
  | 5, _ => exact ⟨true, (fun _ => by decide), fun e he => zchk_at zk65 e he⟩
  | 6, _ => exact ⟨true, (fun _ => by decide), fun e he => zchk_at zk66 e he⟩
  | 7, _ => exact ⟨true, (fun _ => by decide), fun e he => zchk_at zk67 e he⟩
  | 8, _ => exact ⟨true, (fun _ => by decide), fun e he => zchk_at zk68 e he⟩
  | 9, _ => exact ⟨true, (fun _ => by decide), fun e he => zchk_at zk69 e he⟩
  | 10, _ => exact ⟨true, (fun _ => by decide), fun e he => zchk_at zk70 e he⟩
  | 11, _ => exact ⟨true, (fun _ => by decide), fun e he => zchk_at zk71 e he⟩
  | 12, _ => exact ⟨true, (fun _ => by decide), fun e he => zchk_at zk72 e he⟩
  | 13, _ => exact ⟨true, (fun _ => by decide), fun e he => zchk_at zk73 e he⟩
  | 14, _ => exact ⟨true, (fun _ => by decide), fun e he => zchk_at zk74 e he⟩
  | 15, _ => exact ⟨true, (fun _ => by decide), fun e he => zchk_at zk75 e he⟩
  | 16, _ => exact ⟨true, (fun _ => by decide), fun e he => zchk_at zk76 e he⟩
  | 17, _ => exact ⟨true, (fun _ => by decide), fun e he => zchk_at zk77 e he⟩
  | 18, _ => exact ⟨true, (fun _ => by decide), fun e he => zchk_at zk78 e he⟩
  | 19, _ => exact ⟨true, (fun _ => by decide), fun e he => zchk_at zk79 e he⟩
  | k + 20, hi => exact absurd hi (by omega)
theorem zft4 : ∀ i, i < 20 → zfit (80 + i) (zcA4.getD i []) := by
  intro i hi
  match i, hi with
  | 0, _ => exact ⟨true, (fun _ => by decide), fun e he => zchk_at zk80 e he⟩
  | 1, _ => exact ⟨true, (fun _ => by decide), fun e he => zchk_at zk81 e he⟩
  | 2, _ => exact ⟨true, (fun _ => by decide), fun e he => zchk_at zk82 e he⟩
  | 3, _ => exact ⟨true, (fun _ => by decide), fun e he => zchk_at zk83 e he⟩
  | 4, _ => exact ⟨true, (fun _ => by decide), fun e he => zchk_at zk84 e he⟩
  | 5, _ => exact ⟨true, (fun _ => by decide), fun e he => zchk_at zk85 e he⟩
  | 6, _ => exact ⟨true, (fun _ => by decide), fun e he => zchk_at zk86 e he⟩
  | 7, _ => exact ⟨true, (fun _ => by decide), fun e he => zchk_at zk87 e he⟩
  | 8, _ => exact ⟨true, (fun _ => by decide), fun e he => zchk_at zk88 e he⟩
  | 9, _ => exact ⟨true, (fun _ => by decide), fun e he => zchk_at zk89 e he⟩
  | 10, _ => exact ⟨true, (fun _ => by decide), fun e he => zchk_at zk90 e he⟩
  | 11, _ => exact ⟨true, (fun _ => by decide), fun e he => zchk_at zk91 e he⟩
  | 12, _ => exact ⟨true, (fun _ => by decide), fun e he => zchk_at zk92 e he⟩
  | 13, _ => exact ⟨true, (fun _ => by decide), fun e he => zchk_at zk93 e he⟩
  | 14, _ => exact ⟨true, (fun _ => by decide), fun e he => zchk_at zk94 e he⟩
  | 15, _ => exact ⟨true, (fun _ => by decide), fun e he => zchk_at zk95 e he⟩
  | 16, _ => exact ⟨true, (fun _ => by decide), fun e he => zchk_at zk96 e he⟩
  | 17, _ => exact ⟨true, (fun _ => by decide), fun e he => zchk_at zk97 e he⟩
  | 18, _ => exact ⟨true, (fun _ => by decide), fun e he => zchk_at zk98 e he⟩
  | 19, _ => exact ⟨true, (fun _ => by decide), fun e he => zchk_at zk99 e he⟩
  | k + 20, hi => exact absurd hi (by omega)
theorem zft5 : ∀ i, i < 20 → zfit (100 + i) (zcA5.getD i []) := by
  intro i hi
  match i, hi with
  | 0, _ => exact ⟨true, (fun _ => by decide), fun e he => zchk_at zk100 e he⟩
  | 1, _ => exact ⟨true, (fun _ => by decide), fun e he => zchk_at zk101 e he⟩
  | 2, _ => exact ⟨true, (fun _ => by decide), fun e he => zchk_at zk102 e he⟩
  | 3, _ => exact ⟨true, (fun _ => by decide), fun e he => zchk_at zk103 e he⟩
  | 4, _ => exact ⟨true, (fun _ => by decide), fun e he => zchk_at zk104 e he⟩
  | 5, _ => exact ⟨true, (fun _ => by decide), fun e he => zchk_at zk105 e he⟩
  | 6, _ => exact ⟨false, (fun h => by cases h), fun e he => zchk_at zk106 e he⟩
  | 7, _ => exact ⟨true, (fun _ => by decide), fun e he => zchk_at zk107 e he⟩
  | 8, _ => exact ⟨true, (fun _ => by decide), fun e he => zchk_at zk108 e he⟩
  | 9, _ => exact ⟨true, (fun _ => by decide), fun e he => zchk_at zk109 e he⟩
  | 10, _ => exact ⟨true, (fun _ => by decide), fun e he => zchk_at zk110 e he⟩
  | 11, _ => exact ⟨true, (fun _ => by decide), fun e he => zchk_at zk111 e he⟩
  | 12, _ => exact ⟨true, (fun _ => by decide), fun e he => zchk_at zk112 e he⟩
  | 13, _ => exact ⟨true, (fun _ => by decide), fun e he => zchk_at zk113 e he⟩
  | 14, _ => exact ⟨true, (fun _ => by decide), fun e he => zchk_at zk114 e he⟩
  | 15, _ => exact ⟨true, (fun _ => by decide), fun e he => zchk_at zk115 e he⟩
  | 16, _ => exact ⟨true, (fun _ => by decide), fun e he => zchk_at zk116 e he⟩
  | 17, _ => exact ⟨true, (fun _ => by decide), fun e he => zchk_at zk117 e he⟩
  | 18, _ => exact ⟨true, (fun _ => by decide), fun e he => zchk_at zk118 e he⟩
  | 19, _ => exact ⟨true, (fun _ => by decide), fun e he => zchk_at zk119 e he⟩
  | k + 20, hi => exact absurd hi (by omega)
theorem zft6 : ∀ i, i < 20 → zfit (120 + i) (zcA6.getD i []) := by
  intro i hi
  match i, hi with
  | 0, _ => exact ⟨true, (fun _ => by decide), fun e he => zchk_at zk120 e he⟩
  | 1, _ => exact ⟨true, (fun _ => by decide), fun e he => zchk_at zk121 e he⟩
  | 2, _ => exact ⟨true, (fun _ => by decide), fun e he => zchk_at zk122 e he⟩
  | 3, _ => exact ⟨true, (fun _ => by decide), fun e he => zchk_at zk123 e he⟩
  | 4, _ => exact ⟨true, (fun _ => by decide), fun e he => zchk_at zk124 e he⟩
  | 5, _ => exact ⟨true, (fun _ => by decide), fun e he => zchk_at zk125 e he⟩
  | 6, _ => exact ⟨true, (fun _ => by decide), fun e he => zchk_at zk126 e he⟩
  | 7, _ => exact ⟨true, (fun _ => by decide), fun e he => zchk_at zk127 e he⟩
  | 8, _ => exact ⟨true, (fun _ => by decide), fun e he => zchk_at zk128 e he⟩
  | 9, _ => exact ⟨true, (fun _ => by decide), fun e he => zchk_at zk129 e he⟩
  | 10, _ => exact ⟨true, (fun _ => by decide), fun e he => zchk_at zk130 e he⟩
  | 11, _ => exact ⟨true, (fun _ => by decide), fun e he => zchk_at zk131 e he⟩
  | 12, _ => exact ⟨true, (fun _ => by decide), fun e he => zchk_at zk132 e he⟩
  | 13, _ => exact ⟨true, (fun _ => by decide), fun e he => zchk_at zk133 e he⟩
  | 14, _ => exact ⟨true, (fun _ => by decide), fun e he => zchk_at zk134 e he⟩
  | 15, _ => exact ⟨true, (fun _ => by decide), fun e he => zchk_at zk135 e he⟩
  | 16, _ => exact ⟨true, (fun _ => by decide), fun e he => zchk_at zk136 e he⟩
  | 17, _ => exact ⟨true, (fun _ => by decide), fun e he => zchk_at zk137 e he⟩
  | 18, _ => exact ⟨true, (fun _ => by decide), fun e he => zchk_at zk138 e he⟩
  | 19, _ => exact ⟨true, (fun _ => by decide), fun e he => zchk_at zk139 e he⟩
  | k + 20, hi => exact absurd hi (by omega)
theorem zft7 : ∀ i, i < 20 → zfit (140 + i) (zcA7.getD i []) := by
  intro i hi
  match i, hi with
  | 0, _ => exact ⟨true, (fun _ => by decide), fun e he => zchk_at zk140 e he⟩
  | 1, _ => exact ⟨true, (fun _ => by decide), fun e he => zchk_at zk141 e he⟩
  | 2, _ => exact ⟨true, (fun _ => by decide), fun e he => zchk_at zk142 e he⟩
  | 3, _ => exact ⟨true, (fun _ => by decide), fun e he => zchk_at zk143 e he⟩
  | 4, _ => exact ⟨true, (fun _ => by decide), fun e he => zchk_at zk144 e he⟩
  | 5, _ => exact ⟨true, (fun _ => by decide), fun e he => zchk_at zk145 e he⟩
  | 6, _ => exact ⟨true, (fun _ => by decide), fun e he => zchk_at zk146 e he⟩
  | 7, _ => exact ⟨true, (fun _ => by decide), fun e he => zchk_at zk147 e he⟩
  | 8, _ => exact ⟨true, (fun _ => by decide), fun e he => zchk_at zk148 e he⟩
  | 9, _ => exact ⟨true, (fun _ => by decide), fun e he => zchk_at zk149 e he⟩
  | 10, _ => exact ⟨true, (fun _ => by decide), fun e he => zchk_at zk150 e he⟩
  | 11, _ => exact ⟨true, (fun _ => by decide), fun e he => zchk_at zk151 e he⟩
  | 12, _ => exact ⟨true, (fun _ => by decide), fun e he => zchk_at zk152 e he⟩
  | 13, _ => exact ⟨true, (fun _ => by decide), fun e he => zchk_at zk153 e he⟩
  | 14, _ => exact ⟨true, (fun _ => by decide), fun e he => zchk_at zk154 e he⟩
  | 15, _ => exact ⟨true, (fun _ => by decide), fun e he => zchk_at zk155 e he⟩
  | 16, _ => exact ⟨true, (fun _ => by decide), fun e he => zchk_at zk156 e he⟩
  | 17, _ => exact ⟨true, (fun _ => by decide), fun e he => zchk_at zk157 e he⟩
  | 18, _ => exact ⟨true, (fun _ => by decide), fun e he => zchk_at zk158 e he⟩
  | 19, _ => exact ⟨true, (fun _ => by decide), fun e he => zchk_at zk159 e he⟩
  | k + 20, hi => exact absurd hi (by omega)
theorem zft8 : ∀ i, i < 20 → zfit (160 + i) (zcA8.getD i []) := by
  intro i hi
  match i, hi with
  | 0, _ => exact ⟨true, (fun _ => by decide), fun e he => zchk_at zk160 e he⟩
  | 1, _ => exact ⟨true, (fun _ => by decide), fun e he => zchk_at zk161 e he⟩
  | 2, _ => exact ⟨true, (fun _ => by decide), fun e he => zchk_at zk162 e he⟩
  | 3, _ => exact ⟨true, (fun _ => by decide), fun e he => zchk_at zk163 e he⟩
  | 4, _ => exact ⟨true, (fun _ => by decide), fun e he => zchk_at zk164 e he⟩
  | 5, _ => exact ⟨true, (fun _ => by decide), fun e he => zchk_at zk165 e he⟩
  | 6, _ => exact ⟨true, (fun _ => by decide), fun e he => zchk_at zk166 e he⟩
  | 7, _ => exact ⟨true, (fun _ => by decide), fun e he => zchk_at zk167 e he⟩
  | 8, _ => exact ⟨true, (fun _ => by decide), fun e he => zchk_at zk168 e he⟩
  | 9, _ => exact ⟨true, (fun _ => by decide), fun e he => zchk_at zk169 e he⟩
  | 10, _ => exact ⟨true, (fun _ => by decide), fun e he => zchk_at zk170 e he⟩
  | 11, _ => exact ⟨true, (fun _ => by decide), fun e he => zchk_at zk171 e he⟩
  | 12, _ => exact ⟨true, (fun _ => by decide), fun e he => zchk_at zk172 e he⟩
  | 13, _ => exact ⟨true, (fun _ => by decide), fun e he => zchk_at zk173 e he⟩
  | 14, _ => exact ⟨true, (fun _ => by decide), fun e he => zchk_at zk174 e he⟩
  | 15, _ => exact ⟨true, (fun _ => by decide), fun e he => zchk_at zk175 e he⟩
  | 16, _ => exact ⟨true, (fun _ => by decide), fun e he => zchk_at zk176 e he⟩
  | 17, _ => exact ⟨true, (fun _ => by decide), fun e he => zchk_at zk177 e he⟩
  | 18, _ => exact ⟨true, (fun _ => by decide), fun e he => zchk_at zk178 e he⟩
  | 19, _ => exact ⟨true, (fun _ => by decide), fun e he => zchk_at zk179 e he⟩
  | k + 20, hi => exact absurd hi (by omega)
theorem zft9 : ∀ i, i < 20 → zfit (180 + i) (zcA9.getD i []) := by
  intro i hi
  match i, hi with
  | 0, _ => exact ⟨true, (fun _ => by decide), fun e he => zchk_at zk180 e he⟩
  | 1, _ => exact ⟨true, (fun _ => by decide), fun e he => zchk_at zk181 e he⟩
  | 2, _ => exact ⟨true, (fun _ => by decide), fun e he => zchk_at zk182 e he⟩
  | 3, _ => exact ⟨true, (fun _ => by decide), fun e he => zchk_at zk183 e he⟩
  | 4, _ => exact ⟨true, (fun _ => by decide), fun e he => zchk_at zk184 e he⟩
  | 5, _ => exact ⟨true, (fun _ => by decide), fun e he => zchk_at zk185 e he⟩
  | 6, _ => exact ⟨true, (fun _ => by decide), fun e he => zchk_at zk186 e he⟩
  | 7, _ => exact ⟨true, (fun _ => by decide), fun e he => zchk_at zk187 e he⟩
  | 8, _ => exact ⟨true, (fun _ => by decide), fun e he => zchk_at zk188 e he⟩
  | 9, _ => exact ⟨true, (fun _ => by decide), fun e he => zchk_at zk189 e he⟩
  | 10, _ => exact ⟨true, (fun _ => by decide), fun e he => zchk_at zk190 e he⟩
  | 11, _ => exact ⟨true, (fun _ => by decide), fun e he => zchk_at zk191 e he⟩
  | 12, _ => exact ⟨true, (fun _ => by decide), fun e he => zchk_at zk192 e he⟩
  | 13, _ => exact ⟨true, (fun _ => by decide), fun e he => zchk_at zk193 e he⟩
  | 14, _ => exact ⟨true, (fun _ => by decide), fun e he => zchk_at zk194 e he⟩
  | 15, _ => exact ⟨true, (fun _ => by decide), fun e he => zchk_at zk195 e he⟩
  | 16, _ => exact ⟨true, (fun _ => by decide), fun e he => zchk_at zk196 e he⟩
  | 17, _ => exact ⟨true, (fun _ => by decide), fun e he => zchk_at zk197 e he⟩
  | 18, _ => exact ⟨true, (fun _ => by decide), fun e he => zchk_at zk198 e he⟩
  | 19, _ => exact ⟨true, (fun _ => by decide), fun e he => zchk_at zk199 e he⟩
  | k + 20, hi => exact absurd hi (by omega)
theorem zft10 : ∀ i, i < 2 → zfit (200 + i) (zcA10.getD i []) := by
  intro i hi
  match i, hi with
  | 0, _ => exact ⟨true, (fun _ => by decide), fun e he => zchk_at zk200 e he⟩
  | 1, _ => exact ⟨true, (fun _ => by decide), fun e he => zchk_at zk201 e he⟩
  | k + 2, hi => exact absurd hi (by omega)
theorem zfit_law : zfit0 RL cL_law 4 true (some .boolean) zc300 := by
  unfold zc300
  exact zfit0_app (fun e he => zchk_at zk300_0 e he) (zfit0_app (fun e he => zchk_at zk300_1 e he) (zfit0_app (fun e he => zchk_at zk300_2 e he) (zfit0_app (fun e he => zchk_at zk300_3 e he) (zfit0_app (fun e he => zchk_at zk300_4 e he) (zfit0_app (fun e he => zchk_at zk300_5 e he) (zfit0_app (fun e he => zchk_at zk300_6 e he) (zfit0_app (fun e he => zchk_at zk300_7 e he) (zfit0_app (fun e he => zchk_at zk300_8 e he) (zfit0_app (fun e he => zchk_at zk300_9 e he) (zfit0_app (fun e he => zchk_at zk300_10 e he) (zfit0_app (fun e he => zchk_at zk300_11 e he) (zfit0_app (fun e he => zchk_at zk300_12 e he) (zfit0_app (fun e he => zchk_at zk300_13 e he) (zfit0_app (fun e he => zchk_at zk300_14 e he) (fun e he => zchk_at zk300_15 e he)))))))))))))))
theorem zfit_all {y : Nat} (h : y < 202) : zfit y (zcq y) := by
  unfold zcq
  have e : y = 20 * (y / 20) + y % 20 := by omega
  have hr : y % 20 < 20 := Nat.mod_lt _ (by omega)
  have hq : y / 20 ≤ 10 := by omega
  generalize y / 20 = a at e hq ⊢
  generalize y % 20 = b at e hr ⊢
  subst e
  match a, hq with
  | 0, _ => exact zft0 b hr
  | 1, _ => exact zft1 b hr
  | 2, _ => exact zft2 b hr
  | 3, _ => exact zft3 b hr
  | 4, _ => exact zft4 b hr
  | 5, _ => exact zft5 b hr
  | 6, _ => exact zft6 b hr
  | 7, _ => exact zft7 b hr
  | 8, _ => exact zft8 b hr
  | 9, _ => exact zft9 b hr
  | 10, _ => exact zft10 b (by omega)
