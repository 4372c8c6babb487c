/-! all code tables in one; methods by number (300: the law) -/
def zcA0 : List (List zE) := [zc0, zc1, zc2, zc3, zc4, zc5, zc6, zc7, zc8, zc9, zc10, zc11, zc12, zc13, zc14, zc15, zc16, zc17, zc18, zc19]
def zcA1 : List (List zE) := [zc20, zc21, zc22, zc23, zc24, zc25, zc26, zc27, zc28, zc29, zc30, zc31, zc32, zc33, zc34, zc35, zc36, zc37, zc38, zc39]
def zcA2 : List (List zE) := [zc40, zc41, zc42, zc43, zc44, zc45, zc46, zc47, zc48, zc49, zc50, zc51, zc52, zc53, zc54, zc55, zc56, zc57, zc58, zc59]
def zcA3 : List (List zE) := [zc60, zc61, zc62, zc63, zc64, zc65, zc66, zc67, zc68, zc69, zc70, zc71, zc72, zc73, zc74, zc75, zc76, zc77, zc78, zc79]
def zcA4 : List (List zE) := [zc80, zc81, zc82, zc83, zc84, zc85, zc86, zc87, zc88, zc89, zc90, zc91, zc92, zc93, zc94, zc95, zc96, zc97, zc98, zc99]
def zcA5 : List (List zE) := [zc100, zc101, zc102, zc103, zc104, zc105, zc106, zc107, zc108, zc109, zc110, zc111, zc112, zc113, zc114, zc115, zc116, zc117, zc118, zc119]
def zcA6 : List (List zE) := [zc120, zc121, zc122, zc123, zc124, zc125, zc126, zc127, zc128, zc129, zc130, zc131, zc132, zc133, zc134, zc135, zc136, zc137, zc138, zc139]
def zcA7 : List (List zE) := [zc140, zc141, zc142, zc143, zc144, zc145, zc146, zc147, zc148, zc149, zc150, zc151, zc152, zc153, zc154, zc155, zc156, zc157, zc158, zc159]
def zcA8 : List (List zE) := [zc160, zc161, zc162, zc163, zc164, zc165, zc166, zc167, zc168, zc169, zc170, zc171, zc172, zc173, zc174, zc175, zc176, zc177, zc178, zc179]
def zcA9 : List (List zE) := [zc180, zc181, zc182, zc183, zc184, zc185, zc186, zc187, zc188, zc189, zc190, zc191, zc192, zc193, zc194, zc195, zc196, zc197, zc198, zc199]
def zcA10 : List (List zE) := [zc200, zc201]
def zcA : List (List zE) := zcA0 ++ zcA1 ++ zcA2 ++ zcA3 ++ zcA4 ++ zcA5 ++ zcA6 ++ zcA7 ++ zcA8 ++ zcA9 ++ zcA10
/-- looking an entry up -/
def zfind (pc : Nat) : List zE → Option zE
  | [] => none
  | e :: l => if Nat.beq e.1 pc = true then some e else zfind pc l
def zcod (y pc : Nat) : Option zE := if Nat.beq y 300 = true then zfind pc zc300 else zfind pc (zcA.getD y [])
theorem zcA_len : zcA.length = 202 := by decide +kernel
theorem zyT_len : zyT.length = 202 := by decide +kernel
theorem zfind_in {pc : Nat} {e : zE} : ∀ {l : List zE}, zfind pc l = some e → e ∈ l ∧ e.1 = pc
  | [], h => by cases h
  | a :: l, h => by
    unfold zfind at h
    split at h
    · rename_i q; cases h; exact ⟨List.mem_cons_self, Nat.eq_of_beq_eq_true q⟩
    · obtain ⟨h1, h2⟩ := zfind_in h; exact ⟨List.mem_cons_of_mem _ h1, h2⟩
theorem zchk_at {own : String} {cc : ByteArray} {nL : Nat} {nol : Bool} {rk : Option FieldType} : ∀ {l : List zE} {us : List Nat}, zchk own cc nL nol rk l us = true → ∀ e ∈ l, decode cc e.1 = .ok (e.2.1, zlen e.2.1 e.2.2.2.1) ∧ ∃ u, zlk own nL nol rk u e = true
  | [], _, _, e, he => by cases he
  | a :: l, [], h, e, he => by cases h
  | a :: l, u :: us, h, e, he => by
    simp only [zchk, Bool.and_eq_true, decide_eq_true_eq] at h
    rcases List.mem_cons.mp he with rfl | he
    · exact ⟨h.1.1, u, h.1.2⟩
    · exact zchk_at h.2 e he
theorem zmoks_at : ∀ {us : List (Nat × Nat × Nat × Nat)} {l : List (MethodName × ByteArray × Nat × Option FieldType × Nat × Bool)}, zmoks us l = true → ∀ q ∈ l, ∃ u, zmok u q = true
  | _, [], _, q, hq => by cases hq
  | [], _ :: _, h, q, hq => by cases h
  | u :: us, a :: l, h, q, hq => by
    simp only [zmoks, Bool.and_eq_true] at h
    rcases List.mem_cons.mp hq with rfl | hq
    · exact ⟨u, h.1⟩
    · exact zmoks_at h.2 q hq
theorem zmok_all : ∀ q ∈ zyT, ∃ u, zmok u q = true := by
  intro q hq
  unfold zyT at hq
  simp only [List.mem_append] at hq
  rcases hq with ((((((h | h) | h) | h) | h) | h) | h) | h
  · exact zmoks_at zmok_0 q h
  · exact zmoks_at zmok_1 q h
  · exact zmoks_at zmok_2 q h
  · exact zmoks_at zmok_3 q h
  · exact zmoks_at zmok_4 q h
  · exact zmoks_at zmok_5 q h
  · exact zmoks_at zmok_6 q h
  · exact zmoks_at zmok_7 q h
/-- the table of a method fits the method: its own class, bytes, locals, long arguments or none, result -/
def zfit (y : Nat) (l : List zE) : Prop := ∃ nol : Bool, (nol = false → y = 106) ∧ ∃ us : List Nat, zchk (zyN y).cls (zyB y) (zyL y) nol (zyQ y) l us = true
theorem zfit0 : ∀ i, i < 20 → zfit (0 + i) (zcA0.getD i []) := by
  intro i hi
  match i, hi with
  | 0, _ => exact ⟨true, fun h => by cases h, _, zk0⟩
  | 1, _ => exact ⟨true, fun h => by cases h, _, zk1⟩
  | 2, _ => exact ⟨true, fun h => by cases h, _, zk2⟩
  | 3, _ => exact ⟨true, fun h => by cases h, _, zk3⟩
  | 4, _ => exact ⟨true, fun h => by cases h, _, zk4⟩
  | 5, _ => exact ⟨true, fun h => by cases h, _, zk5⟩
  | 6, _ => exact ⟨true, fun h => by cases h, _, zk6⟩
  | 7, _ => exact ⟨true, fun h => by cases h, _, zk7⟩
  | 8, _ => exact ⟨true, fun h => by cases h, _, zk8⟩
  | 9, _ => exact ⟨true, fun h => by cases h, _, zk9⟩
  | 10, _ => exact ⟨true, fun h => by cases h, _, zk10⟩
  | 11, _ => exact ⟨true, fun h => by cases h, _, zk11⟩
  | 12, _ => exact ⟨true, fun h => by cases h, _, zk12⟩
  | 13, _ => exact ⟨true, fun h => by cases h, _, zk13⟩
  | 14, _ => exact ⟨true, fun h => by cases h, _, zk14⟩
  | 15, _ => exact ⟨true, fun h => by cases h, _, zk15⟩
  | 16, _ => exact ⟨true, fun h => by cases h, _, zk16⟩
  | 17, _ => exact ⟨true, fun h => by cases h, _, zk17⟩
  | 18, _ => exact ⟨true, fun h => by cases h, _, zk18⟩
  | 19, _ => exact ⟨true, fun h => by cases h, _, zk19⟩
  | k + 20, hi => exact absurd hi (by omega)
theorem zfit1 : ∀ i, i < 20 → zfit (20 + i) (zcA1.getD i []) := by
  intro i hi
  match i, hi with
  | 0, _ => exact ⟨true, fun h => by cases h, _, zk20⟩
  | 1, _ => exact ⟨true, fun h => by cases h, _, zk21⟩
  | 2, _ => exact ⟨true, fun h => by cases h, _, zk22⟩
  | 3, _ => exact ⟨true, fun h => by cases h, _, zk23⟩
  | 4, _ => exact ⟨true, fun h => by cases h, _, zk24⟩
  | 5, _ => exact ⟨true, fun h => by cases h, _, zk25⟩
  | 6, _ => exact ⟨true, fun h => by cases h, _, zk26⟩
  | 7, _ => exact ⟨true, fun h => by cases h, _, zk27⟩
  | 8, _ => exact ⟨true, fun h => by cases h, _, zk28⟩
  | 9, _ => exact ⟨true, fun h => by cases h, _, zk29⟩
  | 10, _ => exact ⟨true, fun h => by cases h, _, zk30⟩
  | 11, _ => exact ⟨true, fun h => by cases h, _, zk31⟩
  | 12, _ => exact ⟨true, fun h => by cases h, _, zk32⟩
  | 13, _ => exact ⟨true, fun h => by cases h, _, zk33⟩
  | 14, _ => exact ⟨true, fun h => by cases h, _, zk34⟩
  | 15, _ => exact ⟨true, fun h => by cases h, _, zk35⟩
  | 16, _ => exact ⟨true, fun h => by cases h, _, zk36⟩
  | 17, _ => exact ⟨true, fun h => by cases h, _, zk37⟩
  | 18, _ => exact ⟨true, fun h => by cases h, _, zk38⟩
  | 19, _ => exact ⟨true, fun h => by cases h, _, zk39⟩
  | k + 20, hi => exact absurd hi (by omega)
theorem zfit2 : ∀ i, i < 20 → zfit (40 + i) (zcA2.getD i []) := by
  intro i hi
  match i, hi with
  | 0, _ => exact ⟨true, fun h => by cases h, _, zk40⟩
  | 1, _ => exact ⟨true, fun h => by cases h, _, zk41⟩
  | 2, _ => exact ⟨true, fun h => by cases h, _, zk42⟩
  | 3, _ => exact ⟨true, fun h => by cases h, _, zk43⟩
  | 4, _ => exact ⟨true, fun h => by cases h, _, zk44⟩
  | 5, _ => exact ⟨true, fun h => by cases h, _, zk45⟩
  | 6, _ => exact ⟨true, fun h => by cases h, _, zk46⟩
  | 7, _ => exact ⟨true, fun h => by cases h, _, zk47⟩
  | 8, _ => exact ⟨true, fun h => by cases h, _, zk48⟩
  | 9, _ => exact ⟨true, fun h => by cases h, _, zk49⟩
  | 10, _ => exact ⟨true, fun h => by cases h, _, zk50⟩
  | 11, _ => exact ⟨true, fun h => by cases h, _, zk51⟩
  | 12, _ => exact ⟨true, fun h => by cases h, _, zk52⟩
  | 13, _ => exact ⟨true, fun h => by cases h, _, zk53⟩
  | 14, _ => exact ⟨true, fun h => by cases h, _, zk54⟩
  | 15, _ => exact ⟨true, fun h => by cases h, _, zk55⟩
  | 16, _ => exact ⟨true, fun h => by cases h, _, zk56⟩
  | 17, _ => exact ⟨true, fun h => by cases h, _, zk57⟩
  | 18, _ => exact ⟨true, fun h => by cases h, _, zk58⟩
  | 19, _ => exact ⟨true, fun h => by cases h, _, zk59⟩
  | k + 20, hi => exact absurd hi (by omega)
theorem zfit3 : ∀ i, i < 20 → zfit (60 + i) (zcA3.getD i []) := by
  intro i hi
  match i, hi with
  | 0, _ => exact ⟨true, fun h => by cases h, _, zk60⟩
  | 1, _ => exact ⟨true, fun h => by cases h, _, zk61⟩
  | 2, _ => exact ⟨true, fun h => by cases h, _, zk62⟩
  | 3, _ => exact ⟨true, fun h => by cases h, _, zk63⟩
  | 4, _ => exact ⟨true, fun h => by cases h, _, zk64⟩
  | 5, _ => exact ⟨true, fun h => by cases h, _, zk65⟩
  | 6, _ => exact ⟨true, fun h => by cases h, _, zk66⟩
  | 7, _ => exact ⟨true, fun h => by cases h, _, zk67⟩
  | 8, _ => exact ⟨true, fun h => by cases h, _, zk68⟩
  | 9, _ => exact ⟨true, fun h => by cases h, _, zk69⟩
  | 10, _ => exact ⟨true, fun h => by cases h, _, zk70⟩
  | 11, _ => exact ⟨true, fun h => by cases h, _, zk71⟩
  | 12, _ => exact ⟨true, fun h => by cases h, _, zk72⟩
  | 13, _ => exact ⟨true, fun h => by cases h, _, zk73⟩
  | 14, _ => exact ⟨true, fun h => by cases h, _, zk74⟩
  | 15, _ => exact ⟨true, fun h => by cases h, _, zk75⟩
  | 16, _ => exact ⟨true, fun h => by cases h, _, zk76⟩
  | 17, _ => exact ⟨true, fun h => by cases h, _, zk77⟩
  | 18, _ => exact ⟨true, fun h => by cases h, _, zk78⟩
  | 19, _ => exact ⟨true, fun h => by cases h, _, zk79⟩
  | k + 20, hi => exact absurd hi (by omega)
theorem zfit4 : ∀ i, i < 20 → zfit (80 + i) (zcA4.getD i []) := by
  intro i hi
  match i, hi with
  | 0, _ => exact ⟨true, fun h => by cases h, _, zk80⟩
  | 1, _ => exact ⟨true, fun h => by cases h, _, zk81⟩
  | 2, _ => exact ⟨true, fun h => by cases h, _, zk82⟩
  | 3, _ => exact ⟨true, fun h => by cases h, _, zk83⟩
  | 4, _ => exact ⟨true, fun h => by cases h, _, zk84⟩
  | 5, _ => exact ⟨true, fun h => by cases h, _, zk85⟩
  | 6, _ => exact ⟨true, fun h => by cases h, _, zk86⟩
  | 7, _ => exact ⟨true, fun h => by cases h, _, zk87⟩
  | 8, _ => exact ⟨true, fun h => by cases h, _, zk88⟩
  | 9, _ => exact ⟨true, fun h => by cases h, _, zk89⟩
  | 10, _ => exact ⟨true, fun h => by cases h, _, zk90⟩
  | 11, _ => exact ⟨true, fun h => by cases h, _, zk91⟩
  | 12, _ => exact ⟨true, fun h => by cases h, _, zk92⟩
  | 13, _ => exact ⟨true, fun h => by cases h, _, zk93⟩
  | 14, _ => exact ⟨true, fun h => by cases h, _, zk94⟩
  | 15, _ => exact ⟨true, fun h => by cases h, _, zk95⟩
  | 16, _ => exact ⟨true, fun h => by cases h, _, zk96⟩
  | 17, _ => exact ⟨true, fun h => by cases h, _, zk97⟩
  | 18, _ => exact ⟨true, fun h => by cases h, _, zk98⟩
  | 19, _ => exact ⟨true, fun h => by cases h, _, zk99⟩
  | k + 20, hi => exact absurd hi (by omega)
theorem zfit5 : ∀ i, i < 20 → zfit (100 + i) (zcA5.getD i []) := by
  intro i hi
  match i, hi with
  | 0, _ => exact ⟨true, fun h => by cases h, _, zk100⟩
  | 1, _ => exact ⟨true, fun h => by cases h, _, zk101⟩
  | 2, _ => exact ⟨true, fun h => by cases h, _, zk102⟩
  | 3, _ => exact ⟨true, fun h => by cases h, _, zk103⟩
  | 4, _ => exact ⟨true, fun h => by cases h, _, zk104⟩
  | 5, _ => exact ⟨true, fun h => by cases h, _, zk105⟩
  | 6, _ => exact ⟨false, fun _ => rfl, _, zk106⟩
  | 7, _ => exact ⟨true, fun h => by cases h, _, zk107⟩
  | 8, _ => exact ⟨true, fun h => by cases h, _, zk108⟩
  | 9, _ => exact ⟨true, fun h => by cases h, _, zk109⟩
  | 10, _ => exact ⟨true, fun h => by cases h, _, zk110⟩
  | 11, _ => exact ⟨true, fun h => by cases h, _, zk111⟩
  | 12, _ => exact ⟨true, fun h => by cases h, _, zk112⟩
  | 13, _ => exact ⟨true, fun h => by cases h, _, zk113⟩
  | 14, _ => exact ⟨true, fun h => by cases h, _, zk114⟩
  | 15, _ => exact ⟨true, fun h => by cases h, _, zk115⟩
  | 16, _ => exact ⟨true, fun h => by cases h, _, zk116⟩
  | 17, _ => exact ⟨true, fun h => by cases h, _, zk117⟩
  | 18, _ => exact ⟨true, fun h => by cases h, _, zk118⟩
  | 19, _ => exact ⟨true, fun h => by cases h, _, zk119⟩
  | k + 20, hi => exact absurd hi (by omega)
theorem zfit6 : ∀ i, i < 20 → zfit (120 + i) (zcA6.getD i []) := by
  intro i hi
  match i, hi with
  | 0, _ => exact ⟨true, fun h => by cases h, _, zk120⟩
  | 1, _ => exact ⟨true, fun h => by cases h, _, zk121⟩
  | 2, _ => exact ⟨true, fun h => by cases h, _, zk122⟩
  | 3, _ => exact ⟨true, fun h => by cases h, _, zk123⟩
  | 4, _ => exact ⟨true, fun h => by cases h, _, zk124⟩
  | 5, _ => exact ⟨true, fun h => by cases h, _, zk125⟩
  | 6, _ => exact ⟨true, fun h => by cases h, _, zk126⟩
  | 7, _ => exact ⟨true, fun h => by cases h, _, zk127⟩
  | 8, _ => exact ⟨true, fun h => by cases h, _, zk128⟩
  | 9, _ => exact ⟨true, fun h => by cases h, _, zk129⟩
  | 10, _ => exact ⟨true, fun h => by cases h, _, zk130⟩
  | 11, _ => exact ⟨true, fun h => by cases h, _, zk131⟩
  | 12, _ => exact ⟨true, fun h => by cases h, _, zk132⟩
  | 13, _ => exact ⟨true, fun h => by cases h, _, zk133⟩
  | 14, _ => exact ⟨true, fun h => by cases h, _, zk134⟩
  | 15, _ => exact ⟨true, fun h => by cases h, _, zk135⟩
  | 16, _ => exact ⟨true, fun h => by cases h, _, zk136⟩
  | 17, _ => exact ⟨true, fun h => by cases h, _, zk137⟩
  | 18, _ => exact ⟨true, fun h => by cases h, _, zk138⟩
  | 19, _ => exact ⟨true, fun h => by cases h, _, zk139⟩
  | k + 20, hi => exact absurd hi (by omega)
theorem zfit7 : ∀ i, i < 20 → zfit (140 + i) (zcA7.getD i []) := by
  intro i hi
  match i, hi with
  | 0, _ => exact ⟨true, fun h => by cases h, _, zk140⟩
  | 1, _ => exact ⟨true, fun h => by cases h, _, zk141⟩
  | 2, _ => exact ⟨true, fun h => by cases h, _, zk142⟩
  | 3, _ => exact ⟨true, fun h => by cases h, _, zk143⟩
  | 4, _ => exact ⟨true, fun h => by cases h, _, zk144⟩
  | 5, _ => exact ⟨true, fun h => by cases h, _, zk145⟩
  | 6, _ => exact ⟨true, fun h => by cases h, _, zk146⟩
  | 7, _ => exact ⟨true, fun h => by cases h, _, zk147⟩
  | 8, _ => exact ⟨true, fun h => by cases h, _, zk148⟩
  | 9, _ => exact ⟨true, fun h => by cases h, _, zk149⟩
  | 10, _ => exact ⟨true, fun h => by cases h, _, zk150⟩
  | 11, _ => exact ⟨true, fun h => by cases h, _, zk151⟩
  | 12, _ => exact ⟨true, fun h => by cases h, _, zk152⟩
  | 13, _ => exact ⟨true, fun h => by cases h, _, zk153⟩
  | 14, _ => exact ⟨true, fun h => by cases h, _, zk154⟩
  | 15, _ => exact ⟨true, fun h => by cases h, _, zk155⟩
  | 16, _ => exact ⟨true, fun h => by cases h, _, zk156⟩
  | 17, _ => exact ⟨true, fun h => by cases h, _, zk157⟩
  | 18, _ => exact ⟨true, fun h => by cases h, _, zk158⟩
  | 19, _ => exact ⟨true, fun h => by cases h, _, zk159⟩
  | k + 20, hi => exact absurd hi (by omega)
theorem zfit8 : ∀ i, i < 20 → zfit (160 + i) (zcA8.getD i []) := by
  intro i hi
  match i, hi with
  | 0, _ => exact ⟨true, fun h => by cases h, _, zk160⟩
  | 1, _ => exact ⟨true, fun h => by cases h, _, zk161⟩
  | 2, _ => exact ⟨true, fun h => by cases h, _, zk162⟩
  | 3, _ => exact ⟨true, fun h => by cases h, _, zk163⟩
  | 4, _ => exact ⟨true, fun h => by cases h, _, zk164⟩
  | 5, _ => exact ⟨true, fun h => by cases h, _, zk165⟩
  | 6, _ => exact ⟨true, fun h => by cases h, _, zk166⟩
  | 7, _ => exact ⟨true, fun h => by cases h, _, zk167⟩
  | 8, _ => exact ⟨true, fun h => by cases h, _, zk168⟩
  | 9, _ => exact ⟨true, fun h => by cases h, _, zk169⟩
  | 10, _ => exact ⟨true, fun h => by cases h, _, zk170⟩
  | 11, _ => exact ⟨true, fun h => by cases h, _, zk171⟩
  | 12, _ => exact ⟨true, fun h => by cases h, _, zk172⟩
  | 13, _ => exact ⟨true, fun h => by cases h, _, zk173⟩
  | 14, _ => exact ⟨true, fun h => by cases h, _, zk174⟩
  | 15, _ => exact ⟨true, fun h => by cases h, _, zk175⟩
  | 16, _ => exact ⟨true, fun h => by cases h, _, zk176⟩
  | 17, _ => exact ⟨true, fun h => by cases h, _, zk177⟩
  | 18, _ => exact ⟨true, fun h => by cases h, _, zk178⟩
  | 19, _ => exact ⟨true, fun h => by cases h, _, zk179⟩
  | k + 20, hi => exact absurd hi (by omega)
theorem zfit9 : ∀ i, i < 20 → zfit (180 + i) (zcA9.getD i []) := by
  intro i hi
  match i, hi with
  | 0, _ => exact ⟨true, fun h => by cases h, _, zk180⟩
  | 1, _ => exact ⟨true, fun h => by cases h, _, zk181⟩
  | 2, _ => exact ⟨true, fun h => by cases h, _, zk182⟩
  | 3, _ => exact ⟨true, fun h => by cases h, _, zk183⟩
  | 4, _ => exact ⟨true, fun h => by cases h, _, zk184⟩
  | 5, _ => exact ⟨true, fun h => by cases h, _, zk185⟩
  | 6, _ => exact ⟨true, fun h => by cases h, _, zk186⟩
  | 7, _ => exact ⟨true, fun h => by cases h, _, zk187⟩
  | 8, _ => exact ⟨true, fun h => by cases h, _, zk188⟩
  | 9, _ => exact ⟨true, fun h => by cases h, _, zk189⟩
  | 10, _ => exact ⟨true, fun h => by cases h, _, zk190⟩
  | 11, _ => exact ⟨true, fun h => by cases h, _, zk191⟩
  | 12, _ => exact ⟨true, fun h => by cases h, _, zk192⟩
  | 13, _ => exact ⟨true, fun h => by cases h, _, zk193⟩
  | 14, _ => exact ⟨true, fun h => by cases h, _, zk194⟩
  | 15, _ => exact ⟨true, fun h => by cases h, _, zk195⟩
  | 16, _ => exact ⟨true, fun h => by cases h, _, zk196⟩
  | 17, _ => exact ⟨true, fun h => by cases h, _, zk197⟩
  | 18, _ => exact ⟨true, fun h => by cases h, _, zk198⟩
  | 19, _ => exact ⟨true, fun h => by cases h, _, zk199⟩
  | k + 20, hi => exact absurd hi (by omega)
theorem zfit10 : ∀ i, i < 2 → zfit (200 + i) (zcA10.getD i []) := by
  intro i hi
  match i, hi with
  | 0, _ => exact ⟨true, fun h => by cases h, _, zk200⟩
  | 1, _ => exact ⟨true, fun h => by cases h, _, zk201⟩
  | k + 2, hi => exact absurd hi (by omega)
