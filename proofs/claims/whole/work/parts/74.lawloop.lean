/-! the law: each case, then its loop -/
section
variable {d D yx ym pc pc2 pc3 Ln i : Nat} {Q : Option Value → zH → Prop} {lv : zL} {h : zH} {as : List Value} {S : Nat → Int32}
theorem law_case (p : zPair D D yx ym as) (hR : zRel h) (K : ∀ h2, zRel h2 → h2 84 = h 84 → h2 85 = h 85 → zR D 300 Q 1375 lv [] h2)
    (hA : zR D 300 Q pc lv [] h = zM D yx (.ref 0 :: as) h (fun r h' => zR D 300 Q pc2 lv (r.toList ++ []) h'))
    (hB : ∀ h1 r, h1 84 = h 84 → h1 85 = h 85 → zR D 300 Q pc2 lv [.int r] h1 = zM D ym (.ref 60 :: as) h1 (fun r' h' => zR D 300 Q pc3 lv (r'.toList ++ [.int r]) h'))
    (hC : ∀ h2 (r : Int32), zR D 300 Q pc3 lv [.int r, .int r] h2 = zR D 300 Q 1375 lv [] h2) : zR D 300 Q pc lv [] h := by
  rw [hA]
  refine zM_mono _ _ _ _ _ _ (fun r1 h1 hpo => ?_) (p h (fun _ h2 => zR D 300 Q 1375 lv [] h2) hR (fun _ h2 a b c => K h2 a b c))
  obtain ⟨r, rfl, a, b, hz⟩ := hpo
  show zR D 300 Q pc2 lv [.int r] h1
  rw [hB h1 r a b]
  refine zM_mono _ _ _ _ _ _ (fun r2 h2 hq => ?_) hz
  obtain ⟨rfl, hq⟩ := hq
  show zR D 300 Q pc3 lv [.int r, .int r] h2
  rw [hC]
  exact hq
abbrev lawL (i : Nat) : zL := [some (.ref 84), some (.ref 0), some (.ref 60), some (.int (nI i))]
theorem law_ix (hi : i + 6 ≤ Ln) (hL : Ln ≤ 3072) : nI i + 1 = nI (i + 1) ∧ nI i + 2 = nI (i + 2) ∧ nI i + 3 = nI (i + 3) ∧ nI i + 4 = nI (i + 4) ∧ nI i + 5 = nI (i + 5) ∧ zix (nI Ln) = Ln ∧ (∀ j, j < 6 → zok (nI (i + j)) Ln ∧ zix (nI (i + j)) = i + j) := by
  refine ⟨nI_add _ 1, nI_add _ 2, nI_add _ 3, nI_add _ 4, nI_add _ 5, zix_nI (by omega), fun j hj => ⟨zok_nI (by omega) (by omega), zix_nI (by omega)⟩⟩

theorem law_0 (hi : i + 6 ≤ Ln) (hL : Ln ≤ 3072) (h84 : h 84 = S) (h85 : h 85 0 = nI Ln) (hR : zRel h) (K : ∀ h2, zRel h2 → h2 84 = h 84 → h2 85 = h 85 → zR (d + 130) 300 Q 1375 (lawL i) [] h2) : zR (d + 130) 300 Q 212 (lawL i) [] h := by
  obtain ⟨e1, e2, e3, e4, e5, eL, ej⟩ := law_ix hi hL
  refine law_case (pc2 := 231) (pc3 := 250) (as := [.int (S (i + 1)), .int (S (i + 2)), .int (S (i + 3))]) (p_load (d := d + 110)) hR K ?_ (fun h1 r a b => ?_) (fun h2 r => ?_)
  · simp only [↓r300_212, ↓r300_213, ↓r300_214, ↓r300_215, ↓r300_216, ↓r300_217, ↓r300_218, ↓r300_219, ↓r300_220, ↓r300_221, ↓r300_222, ↓r300_223, ↓r300_224, ↓r300_225, ↓r300_226, ↓r300_227, ↓r300_228, zl_84, h84, h85, e1, e2, e3, e4, e5, eL, true_and, (ej 1 (by omega)).1, (ej 1 (by omega)).2, (ej 2 (by omega)).1, (ej 2 (by omega)).2, (ej 3 (by omega)).1, (ej 3 (by omega)).2]
  · simp only [↓r300_231, ↓r300_232, ↓r300_233, ↓r300_234, ↓r300_235, ↓r300_236, ↓r300_237, ↓r300_238, ↓r300_239, ↓r300_240, ↓r300_241, ↓r300_242, ↓r300_243, ↓r300_244, ↓r300_245, ↓r300_246, ↓r300_247, zl_84, a, b, h84, h85, e1, e2, e3, e4, e5, eL, true_and, (ej 1 (by omega)).1, (ej 1 (by omega)).2, (ej 2 (by omega)).1, (ej 2 (by omega)).2, (ej 3 (by omega)).1, (ej 3 (by omega)).2]
  · simp only [↓r300_250, if_true]
theorem law_1 (hi : i + 6 ≤ Ln) (hL : Ln ≤ 3072) (h84 : h 84 = S) (h85 : h 85 0 = nI Ln) (hR : zRel h) (K : ∀ h2, zRel h2 → h2 84 = h 84 → h2 85 = h 85 → zR (d + 130) 300 Q 1375 (lawL i) [] h2) : zR (d + 130) 300 Q 255 (lawL i) [] h := by
  obtain ⟨e1, e2, e3, e4, e5, eL, ej⟩ := law_ix hi hL
  refine law_case (pc2 := 269) (pc3 := 283) (as := [.int (S (i + 1)), .int (S (i + 2))]) (p_told (d := d + 110)) hR K ?_ (fun h1 r a b => ?_) (fun h2 r => ?_)
  · simp only [↓r300_255, ↓r300_256, ↓r300_257, ↓r300_258, ↓r300_259, ↓r300_260, ↓r300_261, ↓r300_262, ↓r300_263, ↓r300_264, ↓r300_265, ↓r300_266, zl_84, h84, h85, e1, e2, e3, e4, e5, eL, true_and, (ej 1 (by omega)).1, (ej 1 (by omega)).2, (ej 2 (by omega)).1, (ej 2 (by omega)).2]
  · simp only [↓r300_269, ↓r300_270, ↓r300_271, ↓r300_272, ↓r300_273, ↓r300_274, ↓r300_275, ↓r300_276, ↓r300_277, ↓r300_278, ↓r300_279, ↓r300_280, zl_84, a, b, h84, h85, e1, e2, e3, e4, e5, eL, true_and, (ej 1 (by omega)).1, (ej 1 (by omega)).2, (ej 2 (by omega)).1, (ej 2 (by omega)).2]
  · simp only [↓r300_283, if_true]
theorem law_2 (hi : i + 6 ≤ Ln) (hL : Ln ≤ 3072) (h84 : h 84 = S) (h85 : h 85 0 = nI Ln) (hR : zRel h) (K : ∀ h2, zRel h2 → h2 84 = h 84 → h2 85 = h 85 → zR (d + 130) 300 Q 1375 (lawL i) [] h2) : zR (d + 130) 300 Q 288 (lawL i) [] h := by
  obtain ⟨e1, e2, e3, e4, e5, eL, ej⟩ := law_ix hi hL
  refine law_case (pc2 := 302) (pc3 := 316) (as := [.int (S (i + 1)), .int (S (i + 2))]) (p_as (d := d + 110)) hR K ?_ (fun h1 r a b => ?_) (fun h2 r => ?_)
  · simp only [↓r300_288, ↓r300_289, ↓r300_290, ↓r300_291, ↓r300_292, ↓r300_293, ↓r300_294, ↓r300_295, ↓r300_296, ↓r300_297, ↓r300_298, ↓r300_299, zl_84, h84, h85, e1, e2, e3, e4, e5, eL, true_and, (ej 1 (by omega)).1, (ej 1 (by omega)).2, (ej 2 (by omega)).1, (ej 2 (by omega)).2]
  · simp only [↓r300_302, ↓r300_303, ↓r300_304, ↓r300_305, ↓r300_306, ↓r300_307, ↓r300_308, ↓r300_309, ↓r300_310, ↓r300_311, ↓r300_312, ↓r300_313, zl_84, a, b, h84, h85, e1, e2, e3, e4, e5, eL, true_and, (ej 1 (by omega)).1, (ej 1 (by omega)).2, (ej 2 (by omega)).1, (ej 2 (by omega)).2]
  · simp only [↓r300_316, if_true]
theorem law_3 (hi : i + 6 ≤ Ln) (hL : Ln ≤ 3072) (h84 : h 84 = S) (h85 : h 85 0 = nI Ln) (hR : zRel h) (K : ∀ h2, zRel h2 → h2 84 = h 84 → h2 85 = h 85 → zR (d + 130) 300 Q 1375 (lawL i) [] h2) : zR (d + 130) 300 Q 321 (lawL i) [] h := by
  obtain ⟨e1, e2, e3, e4, e5, eL, ej⟩ := law_ix hi hL
  refine law_case (pc2 := 335) (pc3 := 349) (as := [.int (S (i + 1)), .int (S (i + 2))]) (p_turns (d := d + 110)) hR K ?_ (fun h1 r a b => ?_) (fun h2 r => ?_)
  · simp only [↓r300_321, ↓r300_322, ↓r300_323, ↓r300_324, ↓r300_325, ↓r300_326, ↓r300_327, ↓r300_328, ↓r300_329, ↓r300_330, ↓r300_331, ↓r300_332, zl_84, h84, h85, e1, e2, e3, e4, e5, eL, true_and, (ej 1 (by omega)).1, (ej 1 (by omega)).2, (ej 2 (by omega)).1, (ej 2 (by omega)).2]
  · simp only [↓r300_335, ↓r300_336, ↓r300_337, ↓r300_338, ↓r300_339, ↓r300_340, ↓r300_341, ↓r300_342, ↓r300_343, ↓r300_344, ↓r300_345, ↓r300_346, zl_84, a, b, h84, h85, e1, e2, e3, e4, e5, eL, true_and, (ej 1 (by omega)).1, (ej 1 (by omega)).2, (ej 2 (by omega)).1, (ej 2 (by omega)).2]
  · simp only [↓r300_349, if_true]
theorem law_4 (hi : i + 6 ≤ Ln) (hL : Ln ≤ 3072) (h84 : h 84 = S) (h85 : h 85 0 = nI Ln) (hR : zRel h) (K : ∀ h2, zRel h2 → h2 84 = h 84 → h2 85 = h 85 → zR (d + 130) 300 Q 1375 (lawL i) [] h2) : zR (d + 130) 300 Q 354 (lawL i) [] h := by
  obtain ⟨e1, e2, e3, e4, e5, eL, ej⟩ := law_ix hi hL
  refine law_case (pc2 := 373) (pc3 := 392) (as := [.int (S (i + 1)), .int (S (i + 2)), .int (S (i + 3))]) (p_set (d := d + 110)) hR K ?_ (fun h1 r a b => ?_) (fun h2 r => ?_)
  · simp only [↓r300_354, ↓r300_355, ↓r300_356, ↓r300_357, ↓r300_358, ↓r300_359, ↓r300_360, ↓r300_361, ↓r300_362, ↓r300_363, ↓r300_364, ↓r300_365, ↓r300_366, ↓r300_367, ↓r300_368, ↓r300_369, ↓r300_370, zl_84, h84, h85, e1, e2, e3, e4, e5, eL, true_and, (ej 1 (by omega)).1, (ej 1 (by omega)).2, (ej 2 (by omega)).1, (ej 2 (by omega)).2, (ej 3 (by omega)).1, (ej 3 (by omega)).2]
  · simp only [↓r300_373, ↓r300_374, ↓r300_375, ↓r300_376, ↓r300_377, ↓r300_378, ↓r300_379, ↓r300_380, ↓r300_381, ↓r300_382, ↓r300_383, ↓r300_384, ↓r300_385, ↓r300_386, ↓r300_387, ↓r300_388, ↓r300_389, zl_84, a, b, h84, h85, e1, e2, e3, e4, e5, eL, true_and, (ej 1 (by omega)).1, (ej 1 (by omega)).2, (ej 2 (by omega)).1, (ej 2 (by omega)).2, (ej 3 (by omega)).1, (ej 3 (by omega)).2]
  · simp only [↓r300_392, if_true]
theorem law_5 (hi : i + 6 ≤ Ln) (hL : Ln ≤ 3072) (h84 : h 84 = S) (h85 : h 85 0 = nI Ln) (hR : zRel h) (K : ∀ h2, zRel h2 → h2 84 = h 84 → h2 85 = h 85 → zR (d + 130) 300 Q 1375 (lawL i) [] h2) : zR (d + 130) 300 Q 397 (lawL i) [] h := by
  obtain ⟨e1, e2, e3, e4, e5, eL, ej⟩ := law_ix hi hL
  refine law_case (pc2 := 406) (pc3 := 415) (as := [.int (S (i + 1))]) (p_boat (d := d + 110)) hR K ?_ (fun h1 r a b => ?_) (fun h2 r => ?_)
  · simp only [↓r300_397, ↓r300_398, ↓r300_399, ↓r300_400, ↓r300_401, ↓r300_402, ↓r300_403, zl_84, h84, h85, e1, e2, e3, e4, e5, eL, true_and, (ej 1 (by omega)).1, (ej 1 (by omega)).2]
  · simp only [↓r300_406, ↓r300_407, ↓r300_408, ↓r300_409, ↓r300_410, ↓r300_411, ↓r300_412, zl_84, a, b, h84, h85, e1, e2, e3, e4, e5, eL, true_and, (ej 1 (by omega)).1, (ej 1 (by omega)).2]
  · simp only [↓r300_415, if_true]
theorem law_6 (hi : i + 6 ≤ Ln) (hL : Ln ≤ 3072) (h84 : h 84 = S) (h85 : h 85 0 = nI Ln) (hR : zRel h) (K : ∀ h2, zRel h2 → h2 84 = h 84 → h2 85 = h 85 → zR (d + 130) 300 Q 1375 (lawL i) [] h2) : zR (d + 130) 300 Q 420 (lawL i) [] h := by
  obtain ⟨e1, e2, e3, e4, e5, eL, ej⟩ := law_ix hi hL
  refine law_case (pc2 := 434) (pc3 := 448) (as := [.int (S (i + 1)), .int (S (i + 2))]) (p_rule (d := d + 110)) hR K ?_ (fun h1 r a b => ?_) (fun h2 r => ?_)
  · simp only [↓r300_420, ↓r300_421, ↓r300_422, ↓r300_423, ↓r300_424, ↓r300_425, ↓r300_426, ↓r300_427, ↓r300_428, ↓r300_429, ↓r300_430, ↓r300_431, zl_84, h84, h85, e1, e2, e3, e4, e5, eL, true_and, (ej 1 (by omega)).1, (ej 1 (by omega)).2, (ej 2 (by omega)).1, (ej 2 (by omega)).2]
  · simp only [↓r300_434, ↓r300_435, ↓r300_436, ↓r300_437, ↓r300_438, ↓r300_439, ↓r300_440, ↓r300_441, ↓r300_442, ↓r300_443, ↓r300_444, ↓r300_445, zl_84, a, b, h84, h85, e1, e2, e3, e4, e5, eL, true_and, (ej 1 (by omega)).1, (ej 1 (by omega)).2, (ej 2 (by omega)).1, (ej 2 (by omega)).2]
  · simp only [↓r300_448, if_true]
theorem law_7 (hi : i + 6 ≤ Ln) (hL : Ln ≤ 3072) (h84 : h 84 = S) (h85 : h 85 0 = nI Ln) (hR : zRel h) (K : ∀ h2, zRel h2 → h2 84 = h 84 → h2 85 = h 85 → zR (d + 130) 300 Q 1375 (lawL i) [] h2) : zR (d + 130) 300 Q 453 (lawL i) [] h := by
  obtain ⟨e1, e2, e3, e4, e5, eL, ej⟩ := law_ix hi hL
  refine law_case (pc2 := 462) (pc3 := 471) (as := [.int (S (i + 1))]) (p_pull (d := d + 110)) hR K ?_ (fun h1 r a b => ?_) (fun h2 r => ?_)
  · simp only [↓r300_453, ↓r300_454, ↓r300_455, ↓r300_456, ↓r300_457, ↓r300_458, ↓r300_459, zl_84, h84, h85, e1, e2, e3, e4, e5, eL, true_and, (ej 1 (by omega)).1, (ej 1 (by omega)).2]
  · simp only [↓r300_462, ↓r300_463, ↓r300_464, ↓r300_465, ↓r300_466, ↓r300_467, ↓r300_468, zl_84, a, b, h84, h85, e1, e2, e3, e4, e5, eL, true_and, (ej 1 (by omega)).1, (ej 1 (by omega)).2]
  · simp only [↓r300_471, if_true]
theorem law_8 (hi : i + 6 ≤ Ln) (hL : Ln ≤ 3072) (h84 : h 84 = S) (h85 : h 85 0 = nI Ln) (hR : zRel h) (K : ∀ h2, zRel h2 → h2 84 = h 84 → h2 85 = h 85 → zR (d + 130) 300 Q 1375 (lawL i) [] h2) : zR (d + 130) 300 Q 476 (lawL i) [] h := by
  obtain ⟨e1, e2, e3, e4, e5, eL, ej⟩ := law_ix hi hL
  refine law_case (pc2 := 480) (pc3 := 484) (as := []) (p_loading (d := d + 110)) hR K ?_ (fun h1 r a b => ?_) (fun h2 r => ?_)
  · simp only [↓r300_476, ↓r300_477, zl_84, h84, h85, e1, e2, e3, e4, e5, eL, true_and]
  · simp only [↓r300_480, ↓r300_481, zl_84, a, b, h84, h85, e1, e2, e3, e4, e5, eL, true_and]
  · simp only [↓r300_484, if_true]
theorem law_9 (hi : i + 6 ≤ Ln) (hL : Ln ≤ 3072) (h84 : h 84 = S) (h85 : h 85 0 = nI Ln) (hR : zRel h) (K : ∀ h2, zRel h2 → h2 84 = h 84 → h2 85 = h 85 → zR (d + 130) 300 Q 1375 (lawL i) [] h2) : zR (d + 130) 300 Q 489 (lawL i) [] h := by
  obtain ⟨e1, e2, e3, e4, e5, eL, ej⟩ := law_ix hi hL
  refine law_case (pc2 := 498) (pc3 := 507) (as := [.int (S (i + 1))]) (p_deal (d := d + 110)) hR K ?_ (fun h1 r a b => ?_) (fun h2 r => ?_)
  · simp only [↓r300_489, ↓r300_490, ↓r300_491, ↓r300_492, ↓r300_493, ↓r300_494, ↓r300_495, zl_84, h84, h85, e1, e2, e3, e4, e5, eL, true_and, (ej 1 (by omega)).1, (ej 1 (by omega)).2]
  · simp only [↓r300_498, ↓r300_499, ↓r300_500, ↓r300_501, ↓r300_502, ↓r300_503, ↓r300_504, zl_84, a, b, h84, h85, e1, e2, e3, e4, e5, eL, true_and, (ej 1 (by omega)).1, (ej 1 (by omega)).2]
  · simp only [↓r300_507, if_true]
theorem law_10 (hi : i + 6 ≤ Ln) (hL : Ln ≤ 3072) (h84 : h 84 = S) (h85 : h 85 0 = nI Ln) (hR : zRel h) (K : ∀ h2, zRel h2 → h2 84 = h 84 → h2 85 = h 85 → zR (d + 130) 300 Q 1375 (lawL i) [] h2) : zR (d + 130) 300 Q 512 (lawL i) [] h := by
  obtain ⟨e1, e2, e3, e4, e5, eL, ej⟩ := law_ix hi hL
  refine law_case (pc2 := 521) (pc3 := 530) (as := [.int (S (i + 1))]) (p_seed (d := d + 110)) hR K ?_ (fun h1 r a b => ?_) (fun h2 r => ?_)
  · simp only [↓r300_512, ↓r300_513, ↓r300_514, ↓r300_515, ↓r300_516, ↓r300_517, ↓r300_518, zl_84, h84, h85, e1, e2, e3, e4, e5, eL, true_and, (ej 1 (by omega)).1, (ej 1 (by omega)).2]
  · simp only [↓r300_521, ↓r300_522, ↓r300_523, ↓r300_524, ↓r300_525, ↓r300_526, ↓r300_527, zl_84, a, b, h84, h85, e1, e2, e3, e4, e5, eL, true_and, (ej 1 (by omega)).1, (ej 1 (by omega)).2]
  · simp only [↓r300_530, if_true]
theorem law_11 (hi : i + 6 ≤ Ln) (hL : Ln ≤ 3072) (h84 : h 84 = S) (h85 : h 85 0 = nI Ln) (hR : zRel h) (K : ∀ h2, zRel h2 → h2 84 = h 84 → h2 85 = h 85 → zR (d + 130) 300 Q 1375 (lawL i) [] h2) : zR (d + 130) 300 Q 535 (lawL i) [] h := by
  obtain ⟨e1, e2, e3, e4, e5, eL, ej⟩ := law_ix hi hL
  refine law_case (pc2 := 544) (pc3 := 553) (as := [.int (S (i + 1))]) (p_steps (d := d + 110)) hR K ?_ (fun h1 r a b => ?_) (fun h2 r => ?_)
  · simp only [↓r300_535, ↓r300_536, ↓r300_537, ↓r300_538, ↓r300_539, ↓r300_540, ↓r300_541, zl_84, h84, h85, e1, e2, e3, e4, e5, eL, true_and, (ej 1 (by omega)).1, (ej 1 (by omega)).2]
  · simp only [↓r300_544, ↓r300_545, ↓r300_546, ↓r300_547, ↓r300_548, ↓r300_549, ↓r300_550, zl_84, a, b, h84, h85, e1, e2, e3, e4, e5, eL, true_and, (ej 1 (by omega)).1, (ej 1 (by omega)).2]
  · simp only [↓r300_553, if_true]
theorem law_12 (hi : i + 6 ≤ Ln) (hL : Ln ≤ 3072) (h84 : h 84 = S) (h85 : h 85 0 = nI Ln) (hR : zRel h) (K : ∀ h2, zRel h2 → h2 84 = h 84 → h2 85 = h 85 → zR (d + 130) 300 Q 1375 (lawL i) [] h2) : zR (d + 130) 300 Q 558 (lawL i) [] h := by
  obtain ⟨e1, e2, e3, e4, e5, eL, ej⟩ := law_ix hi hL
  refine law_case (pc2 := 567) (pc3 := 576) (as := [.int (S (i + 1))]) (p_book (d := d + 110)) hR K ?_ (fun h1 r a b => ?_) (fun h2 r => ?_)
  · simp only [↓r300_558, ↓r300_559, ↓r300_560, ↓r300_561, ↓r300_562, ↓r300_563, ↓r300_564, zl_84, h84, h85, e1, e2, e3, e4, e5, eL, true_and, (ej 1 (by omega)).1, (ej 1 (by omega)).2]
  · simp only [↓r300_567, ↓r300_568, ↓r300_569, ↓r300_570, ↓r300_571, ↓r300_572, ↓r300_573, zl_84, a, b, h84, h85, e1, e2, e3, e4, e5, eL, true_and, (ej 1 (by omega)).1, (ej 1 (by omega)).2]
  · simp only [↓r300_576, if_true]
theorem law_13 (hi : i + 6 ≤ Ln) (hL : Ln ≤ 3072) (h84 : h 84 = S) (h85 : h 85 0 = nI Ln) (hR : zRel h) (K : ∀ h2, zRel h2 → h2 84 = h 84 → h2 85 = h 85 → zR (d + 130) 300 Q 1375 (lawL i) [] h2) : zR (d + 130) 300 Q 581 (lawL i) [] h := by
  obtain ⟨e1, e2, e3, e4, e5, eL, ej⟩ := law_ix hi hL
  refine law_case (pc2 := 585) (pc3 := 589) (as := []) (p_high (d := d + 110)) hR K ?_ (fun h1 r a b => ?_) (fun h2 r => ?_)
  · simp only [↓r300_581, ↓r300_582, zl_84, h84, h85, e1, e2, e3, e4, e5, eL, true_and]
  · simp only [↓r300_585, ↓r300_586, zl_84, a, b, h84, h85, e1, e2, e3, e4, e5, eL, true_and]
  · simp only [↓r300_589, if_true]
theorem law_14 (hi : i + 6 ≤ Ln) (hL : Ln ≤ 3072) (h84 : h 84 = S) (h85 : h 85 0 = nI Ln) (hR : zRel h) (K : ∀ h2, zRel h2 → h2 84 = h 84 → h2 85 = h 85 → zR (d + 130) 300 Q 1375 (lawL i) [] h2) : zR (d + 130) 300 Q 594 (lawL i) [] h := by
  obtain ⟨e1, e2, e3, e4, e5, eL, ej⟩ := law_ix hi hL
  refine law_case (pc2 := 603) (pc3 := 612) (as := [.int (S (i + 1))]) (p_best (d := d + 110)) hR K ?_ (fun h1 r a b => ?_) (fun h2 r => ?_)
  · simp only [↓r300_594, ↓r300_595, ↓r300_596, ↓r300_597, ↓r300_598, ↓r300_599, ↓r300_600, zl_84, h84, h85, e1, e2, e3, e4, e5, eL, true_and, (ej 1 (by omega)).1, (ej 1 (by omega)).2]
  · simp only [↓r300_603, ↓r300_604, ↓r300_605, ↓r300_606, ↓r300_607, ↓r300_608, ↓r300_609, zl_84, a, b, h84, h85, e1, e2, e3, e4, e5, eL, true_and, (ej 1 (by omega)).1, (ej 1 (by omega)).2]
  · simp only [↓r300_612, if_true]
theorem law_15 (hi : i + 6 ≤ Ln) (hL : Ln ≤ 3072) (h84 : h 84 = S) (h85 : h 85 0 = nI Ln) (hR : zRel h) (K : ∀ h2, zRel h2 → h2 84 = h 84 → h2 85 = h 85 → zR (d + 130) 300 Q 1375 (lawL i) [] h2) : zR (d + 130) 300 Q 617 (lawL i) [] h := by
  obtain ⟨e1, e2, e3, e4, e5, eL, ej⟩ := law_ix hi hL
  refine law_case (pc2 := 631) (pc3 := 645) (as := [.int (S (i + 1)), .int (S (i + 2))]) (p_behind (d := d + 110)) hR K ?_ (fun h1 r a b => ?_) (fun h2 r => ?_)
  · simp only [↓r300_617, ↓r300_618, ↓r300_619, ↓r300_620, ↓r300_621, ↓r300_622, ↓r300_623, ↓r300_624, ↓r300_625, ↓r300_626, ↓r300_627, ↓r300_628, zl_84, h84, h85, e1, e2, e3, e4, e5, eL, true_and, (ej 1 (by omega)).1, (ej 1 (by omega)).2, (ej 2 (by omega)).1, (ej 2 (by omega)).2]
  · simp only [↓r300_631, ↓r300_632, ↓r300_633, ↓r300_634, ↓r300_635, ↓r300_636, ↓r300_637, ↓r300_638, ↓r300_639, ↓r300_640, ↓r300_641, ↓r300_642, zl_84, a, b, h84, h85, e1, e2, e3, e4, e5, eL, true_and, (ej 1 (by omega)).1, (ej 1 (by omega)).2, (ej 2 (by omega)).1, (ej 2 (by omega)).2]
  · simp only [↓r300_645, if_true]
theorem law_16 (hi : i + 6 ≤ Ln) (hL : Ln ≤ 3072) (h84 : h 84 = S) (h85 : h 85 0 = nI Ln) (hR : zRel h) (K : ∀ h2, zRel h2 → h2 84 = h 84 → h2 85 = h 85 → zR (d + 130) 300 Q 1375 (lawL i) [] h2) : zR (d + 130) 300 Q 650 (lawL i) [] h := by
  obtain ⟨e1, e2, e3, e4, e5, eL, ej⟩ := law_ix hi hL
  refine law_case (pc2 := 664) (pc3 := 678) (as := [.int (S (i + 1)), .int (S (i + 2))]) (p_slant (d := d + 110)) hR K ?_ (fun h1 r a b => ?_) (fun h2 r => ?_)
  · simp only [↓r300_650, ↓r300_651, ↓r300_652, ↓r300_653, ↓r300_654, ↓r300_655, ↓r300_656, ↓r300_657, ↓r300_658, ↓r300_659, ↓r300_660, ↓r300_661, zl_84, h84, h85, e1, e2, e3, e4, e5, eL, true_and, (ej 1 (by omega)).1, (ej 1 (by omega)).2, (ej 2 (by omega)).1, (ej 2 (by omega)).2]
  · simp only [↓r300_664, ↓r300_665, ↓r300_666, ↓r300_667, ↓r300_668, ↓r300_669, ↓r300_670, ↓r300_671, ↓r300_672, ↓r300_673, ↓r300_674, ↓r300_675, zl_84, a, b, h84, h85, e1, e2, e3, e4, e5, eL, true_and, (ej 1 (by omega)).1, (ej 1 (by omega)).2, (ej 2 (by omega)).1, (ej 2 (by omega)).2]
  · simp only [↓r300_678, if_true]
theorem law_17 (hi : i + 6 ≤ Ln) (hL : Ln ≤ 3072) (h84 : h 84 = S) (h85 : h 85 0 = nI Ln) (hR : zRel h) (K : ∀ h2, zRel h2 → h2 84 = h 84 → h2 85 = h 85 → zR (d + 130) 300 Q 1375 (lawL i) [] h2) : zR (d + 130) 300 Q 683 (lawL i) [] h := by
  obtain ⟨e1, e2, e3, e4, e5, eL, ej⟩ := law_ix hi hL
  refine law_case (pc2 := 697) (pc3 := 711) (as := [.int (S (i + 1)), .int (S (i + 2))]) (p_patience (d := d + 110)) hR K ?_ (fun h1 r a b => ?_) (fun h2 r => ?_)
  · simp only [↓r300_683, ↓r300_684, ↓r300_685, ↓r300_686, ↓r300_687, ↓r300_688, ↓r300_689, ↓r300_690, ↓r300_691, ↓r300_692, ↓r300_693, ↓r300_694, zl_84, h84, h85, e1, e2, e3, e4, e5, eL, true_and, (ej 1 (by omega)).1, (ej 1 (by omega)).2, (ej 2 (by omega)).1, (ej 2 (by omega)).2]
  · simp only [↓r300_697, ↓r300_698, ↓r300_699, ↓r300_700, ↓r300_701, ↓r300_702, ↓r300_703, ↓r300_704, ↓r300_705, ↓r300_706, ↓r300_707, ↓r300_708, zl_84, a, b, h84, h85, e1, e2, e3, e4, e5, eL, true_and, (ej 1 (by omega)).1, (ej 1 (by omega)).2, (ej 2 (by omega)).1, (ej 2 (by omega)).2]
  · simp only [↓r300_711, if_true]
theorem law_18 (hi : i + 6 ≤ Ln) (hL : Ln ≤ 3072) (h84 : h 84 = S) (h85 : h 85 0 = nI Ln) (hR : zRel h) (K : ∀ h2, zRel h2 → h2 84 = h 84 → h2 85 = h 85 → zR (d + 130) 300 Q 1375 (lawL i) [] h2) : zR (d + 130) 300 Q 716 (lawL i) [] h := by
  obtain ⟨e1, e2, e3, e4, e5, eL, ej⟩ := law_ix hi hL
  refine law_case (pc2 := 730) (pc3 := 744) (as := [.int (S (i + 1)), .int (S (i + 2))]) (p_left (d := d + 110)) hR K ?_ (fun h1 r a b => ?_) (fun h2 r => ?_)
  · simp only [↓r300_716, ↓r300_717, ↓r300_718, ↓r300_719, ↓r300_720, ↓r300_721, ↓r300_722, ↓r300_723, ↓r300_724, ↓r300_725, ↓r300_726, ↓r300_727, zl_84, h84, h85, e1, e2, e3, e4, e5, eL, true_and, (ej 1 (by omega)).1, (ej 1 (by omega)).2, (ej 2 (by omega)).1, (ej 2 (by omega)).2]
  · simp only [↓r300_730, ↓r300_731, ↓r300_732, ↓r300_733, ↓r300_734, ↓r300_735, ↓r300_736, ↓r300_737, ↓r300_738, ↓r300_739, ↓r300_740, ↓r300_741, zl_84, a, b, h84, h85, e1, e2, e3, e4, e5, eL, true_and, (ej 1 (by omega)).1, (ej 1 (by omega)).2, (ej 2 (by omega)).1, (ej 2 (by omega)).2]
  · simp only [↓r300_744, if_true]
theorem law_19 (hi : i + 6 ≤ Ln) (hL : Ln ≤ 3072) (h84 : h 84 = S) (h85 : h 85 0 = nI Ln) (hR : zRel h) (K : ∀ h2, zRel h2 → h2 84 = h 84 → h2 85 = h 85 → zR (d + 130) 300 Q 1375 (lawL i) [] h2) : zR (d + 130) 300 Q 749 (lawL i) [] h := by
  obtain ⟨e1, e2, e3, e4, e5, eL, ej⟩ := law_ix hi hL
  refine law_case (pc2 := 753) (pc3 := 757) (as := []) (p_allOver (d := d + 110)) hR K ?_ (fun h1 r a b => ?_) (fun h2 r => ?_)
  · simp only [↓r300_749, ↓r300_750, zl_84, h84, h85, e1, e2, e3, e4, e5, eL, true_and]
  · simp only [↓r300_753, ↓r300_754, zl_84, a, b, h84, h85, e1, e2, e3, e4, e5, eL, true_and]
  · simp only [↓r300_757, if_true]
theorem law_20 (hi : i + 6 ≤ Ln) (hL : Ln ≤ 3072) (h84 : h 84 = S) (h85 : h 85 0 = nI Ln) (hR : zRel h) (K : ∀ h2, zRel h2 → h2 84 = h 84 → h2 85 = h 85 → zR (d + 130) 300 Q 1375 (lawL i) [] h2) : zR (d + 130) 300 Q 762 (lawL i) [] h := by
  obtain ⟨e1, e2, e3, e4, e5, eL, ej⟩ := law_ix hi hL
  refine law_case (pc2 := 776) (pc3 := 790) (as := [.int (S (i + 1)), .int (S (i + 2))]) (p_slanted (d := d + 110)) hR K ?_ (fun h1 r a b => ?_) (fun h2 r => ?_)
  · simp only [↓r300_762, ↓r300_763, ↓r300_764, ↓r300_765, ↓r300_766, ↓r300_767, ↓r300_768, ↓r300_769, ↓r300_770, ↓r300_771, ↓r300_772, ↓r300_773, zl_84, h84, h85, e1, e2, e3, e4, e5, eL, true_and, (ej 1 (by omega)).1, (ej 1 (by omega)).2, (ej 2 (by omega)).1, (ej 2 (by omega)).2]
  · simp only [↓r300_776, ↓r300_777, ↓r300_778, ↓r300_779, ↓r300_780, ↓r300_781, ↓r300_782, ↓r300_783, ↓r300_784, ↓r300_785, ↓r300_786, ↓r300_787, zl_84, a, b, h84, h85, e1, e2, e3, e4, e5, eL, true_and, (ej 1 (by omega)).1, (ej 1 (by omega)).2, (ej 2 (by omega)).1, (ej 2 (by omega)).2]
  · simp only [↓r300_790, if_true]
theorem law_21 (hi : i + 6 ≤ Ln) (hL : Ln ≤ 3072) (h84 : h 84 = S) (h85 : h 85 0 = nI Ln) (hR : zRel h) (K : ∀ h2, zRel h2 → h2 84 = h 84 → h2 85 = h 85 → zR (d + 130) 300 Q 1375 (lawL i) [] h2) : zR (d + 130) 300 Q 795 (lawL i) [] h := by
  obtain ⟨e1, e2, e3, e4, e5, eL, ej⟩ := law_ix hi hL
  refine law_case (pc2 := 799) (pc3 := 803) (as := []) (p_fine (d := d + 110)) hR K ?_ (fun h1 r a b => ?_) (fun h2 r => ?_)
  · simp only [↓r300_795, ↓r300_796, zl_84, h84, h85, e1, e2, e3, e4, e5, eL, true_and]
  · simp only [↓r300_799, ↓r300_800, zl_84, a, b, h84, h85, e1, e2, e3, e4, e5, eL, true_and]
  · simp only [↓r300_803, if_true]
theorem law_22 (hi : i + 6 ≤ Ln) (hL : Ln ≤ 3072) (h84 : h 84 = S) (h85 : h 85 0 = nI Ln) (hR : zRel h) (K : ∀ h2, zRel h2 → h2 84 = h 84 → h2 85 = h 85 → zR (d + 130) 300 Q 1375 (lawL i) [] h2) : zR (d + 130) 300 Q 808 (lawL i) [] h := by
  obtain ⟨e1, e2, e3, e4, e5, eL, ej⟩ := law_ix hi hL
  refine law_case (pc2 := 827) (pc3 := 846) (as := [.int (S (i + 1)), .int (S (i + 2)), .int (S (i + 3))]) (p_feed (d := d + 110)) hR K ?_ (fun h1 r a b => ?_) (fun h2 r => ?_)
  · simp only [↓r300_808, ↓r300_809, ↓r300_810, ↓r300_811, ↓r300_812, ↓r300_813, ↓r300_814, ↓r300_815, ↓r300_816, ↓r300_817, ↓r300_818, ↓r300_819, ↓r300_820, ↓r300_821, ↓r300_822, ↓r300_823, ↓r300_824, zl_84, h84, h85, e1, e2, e3, e4, e5, eL, true_and, (ej 1 (by omega)).1, (ej 1 (by omega)).2, (ej 2 (by omega)).1, (ej 2 (by omega)).2, (ej 3 (by omega)).1, (ej 3 (by omega)).2]
  · simp only [↓r300_827, ↓r300_828, ↓r300_829, ↓r300_830, ↓r300_831, ↓r300_832, ↓r300_833, ↓r300_834, ↓r300_835, ↓r300_836, ↓r300_837, ↓r300_838, ↓r300_839, ↓r300_840, ↓r300_841, ↓r300_842, ↓r300_843, zl_84, a, b, h84, h85, e1, e2, e3, e4, e5, eL, true_and, (ej 1 (by omega)).1, (ej 1 (by omega)).2, (ej 2 (by omega)).1, (ej 2 (by omega)).2, (ej 3 (by omega)).1, (ej 3 (by omega)).2]
  · simp only [↓r300_846, if_true]
theorem law_23 (hi : i + 6 ≤ Ln) (hL : Ln ≤ 3072) (h84 : h 84 = S) (h85 : h 85 0 = nI Ln) (hR : zRel h) (K : ∀ h2, zRel h2 → h2 84 = h 84 → h2 85 = h 85 → zR (d + 130) 300 Q 1375 (lawL i) [] h2) : zR (d + 130) 300 Q 851 (lawL i) [] h := by
  obtain ⟨e1, e2, e3, e4, e5, eL, ej⟩ := law_ix hi hL
  refine law_case (pc2 := 860) (pc3 := 869) (as := [.int (S (i + 1))]) (p_trim (d := d + 110)) hR K ?_ (fun h1 r a b => ?_) (fun h2 r => ?_)
  · simp only [↓r300_851, ↓r300_852, ↓r300_853, ↓r300_854, ↓r300_855, ↓r300_856, ↓r300_857, zl_84, h84, h85, e1, e2, e3, e4, e5, eL, true_and, (ej 1 (by omega)).1, (ej 1 (by omega)).2]
  · simp only [↓r300_860, ↓r300_861, ↓r300_862, ↓r300_863, ↓r300_864, ↓r300_865, ↓r300_866, zl_84, a, b, h84, h85, e1, e2, e3, e4, e5, eL, true_and, (ej 1 (by omega)).1, (ej 1 (by omega)).2]
  · simp only [↓r300_869, if_true]
theorem law_24 (hi : i + 6 ≤ Ln) (hL : Ln ≤ 3072) (h84 : h 84 = S) (h85 : h 85 0 = nI Ln) (hR : zRel h) (K : ∀ h2, zRel h2 → h2 84 = h 84 → h2 85 = h 85 → zR (d + 130) 300 Q 1375 (lawL i) [] h2) : zR (d + 130) 300 Q 874 (lawL i) [] h := by
  obtain ⟨e1, e2, e3, e4, e5, eL, ej⟩ := law_ix hi hL
  refine law_case (pc2 := 878) (pc3 := 882) (as := []) (p_text (d := d)) hR K ?_ (fun h1 r a b => ?_) (fun h2 r => ?_)
  · simp only [↓r300_874, ↓r300_875, zl_84, h84, h85, e1, e2, e3, e4, e5, eL, true_and]
  · simp only [↓r300_878, ↓r300_879, zl_84, a, b, h84, h85, e1, e2, e3, e4, e5, eL, true_and]
  · simp only [↓r300_882, if_true]
theorem law_25 (hi : i + 6 ≤ Ln) (hL : Ln ≤ 3072) (h84 : h 84 = S) (h85 : h 85 0 = nI Ln) (hR : zRel h) (K : ∀ h2, zRel h2 → h2 84 = h 84 → h2 85 = h 85 → zR (d + 130) 300 Q 1375 (lawL i) [] h2) : zR (d + 130) 300 Q 887 (lawL i) [] h := by
  obtain ⟨e1, e2, e3, e4, e5, eL, ej⟩ := law_ix hi hL
  refine law_case (pc2 := 901) (pc3 := 915) (as := [.int (S (i + 1)), .int (S (i + 2))]) (p_textTold (d := d + 110)) hR K ?_ (fun h1 r a b => ?_) (fun h2 r => ?_)
  · simp only [↓r300_887, ↓r300_888, ↓r300_889, ↓r300_890, ↓r300_891, ↓r300_892, ↓r300_893, ↓r300_894, ↓r300_895, ↓r300_896, ↓r300_897, ↓r300_898, zl_84, h84, h85, e1, e2, e3, e4, e5, eL, true_and, (ej 1 (by omega)).1, (ej 1 (by omega)).2, (ej 2 (by omega)).1, (ej 2 (by omega)).2]
  · simp only [↓r300_901, ↓r300_902, ↓r300_903, ↓r300_904, ↓r300_905, ↓r300_906, ↓r300_907, ↓r300_908, ↓r300_909, ↓r300_910, ↓r300_911, ↓r300_912, zl_84, a, b, h84, h85, e1, e2, e3, e4, e5, eL, true_and, (ej 1 (by omega)).1, (ej 1 (by omega)).2, (ej 2 (by omega)).1, (ej 2 (by omega)).2]
  · simp only [↓r300_915, if_true]
theorem law_26 (hi : i + 6 ≤ Ln) (hL : Ln ≤ 3072) (h84 : h 84 = S) (h85 : h 85 0 = nI Ln) (hR : zRel h) (K : ∀ h2, zRel h2 → h2 84 = h 84 → h2 85 = h 85 → zR (d + 130) 300 Q 1375 (lawL i) [] h2) : zR (d + 130) 300 Q 920 (lawL i) [] h := by
  obtain ⟨e1, e2, e3, e4, e5, eL, ej⟩ := law_ix hi hL
  refine law_case (pc2 := 929) (pc3 := 938) (as := [.int (S (i + 1))]) (p_why (d := d + 110)) hR K ?_ (fun h1 r a b => ?_) (fun h2 r => ?_)
  · simp only [↓r300_920, ↓r300_921, ↓r300_922, ↓r300_923, ↓r300_924, ↓r300_925, ↓r300_926, zl_84, h84, h85, e1, e2, e3, e4, e5, eL, true_and, (ej 1 (by omega)).1, (ej 1 (by omega)).2]
  · simp only [↓r300_929, ↓r300_930, ↓r300_931, ↓r300_932, ↓r300_933, ↓r300_934, ↓r300_935, zl_84, a, b, h84, h85, e1, e2, e3, e4, e5, eL, true_and, (ej 1 (by omega)).1, (ej 1 (by omega)).2]
  · simp only [↓r300_938, if_true]
theorem law_27 (hi : i + 6 ≤ Ln) (hL : Ln ≤ 3072) (h84 : h 84 = S) (h85 : h 85 0 = nI Ln) (hR : zRel h) (K : ∀ h2, zRel h2 → h2 84 = h 84 → h2 85 = h 85 → zR (d + 130) 300 Q 1375 (lawL i) [] h2) : zR (d + 130) 300 Q 943 (lawL i) [] h := by
  obtain ⟨e1, e2, e3, e4, e5, eL, ej⟩ := law_ix hi hL
  refine law_case (pc2 := 962) (pc3 := 981) (as := [.int (S (i + 1)), .int (S (i + 2)), .int (S (i + 3))]) (p_sheet (d := d + 110)) hR K ?_ (fun h1 r a b => ?_) (fun h2 r => ?_)
  · simp only [↓r300_943, ↓r300_944, ↓r300_945, ↓r300_946, ↓r300_947, ↓r300_948, ↓r300_949, ↓r300_950, ↓r300_951, ↓r300_952, ↓r300_953, ↓r300_954, ↓r300_955, ↓r300_956, ↓r300_957, ↓r300_958, ↓r300_959, zl_84, h84, h85, e1, e2, e3, e4, e5, eL, true_and, (ej 1 (by omega)).1, (ej 1 (by omega)).2, (ej 2 (by omega)).1, (ej 2 (by omega)).2, (ej 3 (by omega)).1, (ej 3 (by omega)).2]
  · simp only [↓r300_962, ↓r300_963, ↓r300_964, ↓r300_965, ↓r300_966, ↓r300_967, ↓r300_968, ↓r300_969, ↓r300_970, ↓r300_971, ↓r300_972, ↓r300_973, ↓r300_974, ↓r300_975, ↓r300_976, ↓r300_977, ↓r300_978, zl_84, a, b, h84, h85, e1, e2, e3, e4, e5, eL, true_and, (ej 1 (by omega)).1, (ej 1 (by omega)).2, (ej 2 (by omega)).1, (ej 2 (by omega)).2, (ej 3 (by omega)).1, (ej 3 (by omega)).2]
  · simp only [↓r300_981, if_true]
theorem law_28 (hi : i + 6 ≤ Ln) (hL : Ln ≤ 3072) (h84 : h 84 = S) (h85 : h 85 0 = nI Ln) (hR : zRel h) (K : ∀ h2, zRel h2 → h2 84 = h 84 → h2 85 = h 85 → zR (d + 130) 300 Q 1375 (lawL i) [] h2) : zR (d + 130) 300 Q 986 (lawL i) [] h := by
  obtain ⟨e1, e2, e3, e4, e5, eL, ej⟩ := law_ix hi hL
  refine law_case (pc2 := 1005) (pc3 := 1024) (as := [.int (S (i + 1)), .int (S (i + 2)), .int (S (i + 3))]) (p_mark (d := d + 110)) hR K ?_ (fun h1 r a b => ?_) (fun h2 r => ?_)
  · simp only [↓r300_986, ↓r300_987, ↓r300_988, ↓r300_989, ↓r300_990, ↓r300_991, ↓r300_992, ↓r300_993, ↓r300_994, ↓r300_995, ↓r300_996, ↓r300_997, ↓r300_998, ↓r300_999, ↓r300_1000, ↓r300_1001, ↓r300_1002, zl_84, h84, h85, e1, e2, e3, e4, e5, eL, true_and, (ej 1 (by omega)).1, (ej 1 (by omega)).2, (ej 2 (by omega)).1, (ej 2 (by omega)).2, (ej 3 (by omega)).1, (ej 3 (by omega)).2]
  · simp only [↓r300_1005, ↓r300_1006, ↓r300_1007, ↓r300_1008, ↓r300_1009, ↓r300_1010, ↓r300_1011, ↓r300_1012, ↓r300_1013, ↓r300_1014, ↓r300_1015, ↓r300_1016, ↓r300_1017, ↓r300_1018, ↓r300_1019, ↓r300_1020, ↓r300_1021, zl_84, a, b, h84, h85, e1, e2, e3, e4, e5, eL, true_and, (ej 1 (by omega)).1, (ej 1 (by omega)).2, (ej 2 (by omega)).1, (ej 2 (by omega)).2, (ej 3 (by omega)).1, (ej 3 (by omega)).2]
  · simp only [↓r300_1024, if_true]
theorem law_29 (hi : i + 6 ≤ Ln) (hL : Ln ≤ 3072) (h84 : h 84 = S) (h85 : h 85 0 = nI Ln) (hR : zRel h) (K : ∀ h2, zRel h2 → h2 84 = h 84 → h2 85 = h 85 → zR (d + 130) 300 Q 1375 (lawL i) [] h2) : zR (d + 130) 300 Q 1029 (lawL i) [] h := by
  obtain ⟨e1, e2, e3, e4, e5, eL, ej⟩ := law_ix hi hL
  refine law_case (pc2 := 1038) (pc3 := 1047) (as := [.int (S (i + 1))]) (p_pour (d := d + 110)) hR K ?_ (fun h1 r a b => ?_) (fun h2 r => ?_)
  · simp only [↓r300_1029, ↓r300_1030, ↓r300_1031, ↓r300_1032, ↓r300_1033, ↓r300_1034, ↓r300_1035, zl_84, h84, h85, e1, e2, e3, e4, e5, eL, true_and, (ej 1 (by omega)).1, (ej 1 (by omega)).2]
  · simp only [↓r300_1038, ↓r300_1039, ↓r300_1040, ↓r300_1041, ↓r300_1042, ↓r300_1043, ↓r300_1044, zl_84, a, b, h84, h85, e1, e2, e3, e4, e5, eL, true_and, (ej 1 (by omega)).1, (ej 1 (by omega)).2]
  · simp only [↓r300_1047, if_true]
theorem law_30 (hi : i + 6 ≤ Ln) (hL : Ln ≤ 3072) (h84 : h 84 = S) (h85 : h 85 0 = nI Ln) (hR : zRel h) (K : ∀ h2, zRel h2 → h2 84 = h 84 → h2 85 = h 85 → zR (d + 130) 300 Q 1375 (lawL i) [] h2) : zR (d + 130) 300 Q 1052 (lawL i) [] h := by
  obtain ⟨e1, e2, e3, e4, e5, eL, ej⟩ := law_ix hi hL
  refine law_case (pc2 := 1061) (pc3 := 1070) (as := [.int (S (i + 1))]) (p_reads (d := d + 110)) hR K ?_ (fun h1 r a b => ?_) (fun h2 r => ?_)
  · simp only [↓r300_1052, ↓r300_1053, ↓r300_1054, ↓r300_1055, ↓r300_1056, ↓r300_1057, ↓r300_1058, zl_84, h84, h85, e1, e2, e3, e4, e5, eL, true_and, (ej 1 (by omega)).1, (ej 1 (by omega)).2]
  · simp only [↓r300_1061, ↓r300_1062, ↓r300_1063, ↓r300_1064, ↓r300_1065, ↓r300_1066, ↓r300_1067, zl_84, a, b, h84, h85, e1, e2, e3, e4, e5, eL, true_and, (ej 1 (by omega)).1, (ej 1 (by omega)).2]
  · simp only [↓r300_1070, if_true]
theorem law_31 (hi : i + 6 ≤ Ln) (hL : Ln ≤ 3072) (h84 : h 84 = S) (h85 : h 85 0 = nI Ln) (hR : zRel h) (K : ∀ h2, zRel h2 → h2 84 = h 84 → h2 85 = h 85 → zR (d + 130) 300 Q 1375 (lawL i) [] h2) : zR (d + 130) 300 Q 1075 (lawL i) [] h := by
  obtain ⟨e1, e2, e3, e4, e5, eL, ej⟩ := law_ix hi hL
  refine law_case (pc2 := 1104) (pc3 := 1133) (as := [.int (S (i + 1)), .int (S (i + 2)), .int (S (i + 3)), .int (S (i + 4)), .int (S (i + 5))]) (p_copy (d := d + 110)) hR K ?_ (fun h1 r a b => ?_) (fun h2 r => ?_)
  · simp only [↓r300_1075, ↓r300_1076, ↓r300_1077, ↓r300_1078, ↓r300_1079, ↓r300_1080, ↓r300_1081, ↓r300_1082, ↓r300_1083, ↓r300_1084, ↓r300_1085, ↓r300_1086, ↓r300_1087, ↓r300_1088, ↓r300_1089, ↓r300_1090, ↓r300_1091, ↓r300_1092, ↓r300_1093, ↓r300_1094, ↓r300_1095, ↓r300_1096, ↓r300_1097, ↓r300_1098, ↓r300_1099, ↓r300_1100, ↓r300_1101, zl_84, h84, h85, e1, e2, e3, e4, e5, eL, true_and, (ej 1 (by omega)).1, (ej 1 (by omega)).2, (ej 2 (by omega)).1, (ej 2 (by omega)).2, (ej 3 (by omega)).1, (ej 3 (by omega)).2, (ej 4 (by omega)).1, (ej 4 (by omega)).2, (ej 5 (by omega)).1, (ej 5 (by omega)).2]
  · simp only [↓r300_1104, ↓r300_1105, ↓r300_1106, ↓r300_1107, ↓r300_1108, ↓r300_1109, ↓r300_1110, ↓r300_1111, ↓r300_1112, ↓r300_1113, ↓r300_1114, ↓r300_1115, ↓r300_1116, ↓r300_1117, ↓r300_1118, ↓r300_1119, ↓r300_1120, ↓r300_1121, ↓r300_1122, ↓r300_1123, ↓r300_1124, ↓r300_1125, ↓r300_1126, ↓r300_1127, ↓r300_1128, ↓r300_1129, ↓r300_1130, zl_84, a, b, h84, h85, e1, e2, e3, e4, e5, eL, true_and, (ej 1 (by omega)).1, (ej 1 (by omega)).2, (ej 2 (by omega)).1, (ej 2 (by omega)).2, (ej 3 (by omega)).1, (ej 3 (by omega)).2, (ej 4 (by omega)).1, (ej 4 (by omega)).2, (ej 5 (by omega)).1, (ej 5 (by omega)).2]
  · simp only [↓r300_1133, if_true]
theorem law_32 (hi : i + 6 ≤ Ln) (hL : Ln ≤ 3072) (h84 : h 84 = S) (h85 : h 85 0 = nI Ln) (hR : zRel h) (K : ∀ h2, zRel h2 → h2 84 = h 84 → h2 85 = h 85 → zR (d + 130) 300 Q 1375 (lawL i) [] h2) : zR (d + 130) 300 Q 1138 (lawL i) [] h := by
  obtain ⟨e1, e2, e3, e4, e5, eL, ej⟩ := law_ix hi hL
  refine law_case (pc2 := 1157) (pc3 := 1176) (as := [.int (S (i + 1)), .int (S (i + 2)), .int (S (i + 3))]) (p_lay (d := d + 110)) hR K ?_ (fun h1 r a b => ?_) (fun h2 r => ?_)
  · simp only [↓r300_1138, ↓r300_1139, ↓r300_1140, ↓r300_1141, ↓r300_1142, ↓r300_1143, ↓r300_1144, ↓r300_1145, ↓r300_1146, ↓r300_1147, ↓r300_1148, ↓r300_1149, ↓r300_1150, ↓r300_1151, ↓r300_1152, ↓r300_1153, ↓r300_1154, zl_84, h84, h85, e1, e2, e3, e4, e5, eL, true_and, (ej 1 (by omega)).1, (ej 1 (by omega)).2, (ej 2 (by omega)).1, (ej 2 (by omega)).2, (ej 3 (by omega)).1, (ej 3 (by omega)).2]
  · simp only [↓r300_1157, ↓r300_1158, ↓r300_1159, ↓r300_1160, ↓r300_1161, ↓r300_1162, ↓r300_1163, ↓r300_1164, ↓r300_1165, ↓r300_1166, ↓r300_1167, ↓r300_1168, ↓r300_1169, ↓r300_1170, ↓r300_1171, ↓r300_1172, ↓r300_1173, zl_84, a, b, h84, h85, e1, e2, e3, e4, e5, eL, true_and, (ej 1 (by omega)).1, (ej 1 (by omega)).2, (ej 2 (by omega)).1, (ej 2 (by omega)).2, (ej 3 (by omega)).1, (ej 3 (by omega)).2]
  · simp only [↓r300_1176, if_true]
theorem law_33 (hi : i + 6 ≤ Ln) (hL : Ln ≤ 3072) (h84 : h 84 = S) (h85 : h 85 0 = nI Ln) (hR : zRel h) (K : ∀ h2, zRel h2 → h2 84 = h 84 → h2 85 = h 85 → zR (d + 130) 300 Q 1375 (lawL i) [] h2) : zR (d + 130) 300 Q 1181 (lawL i) [] h := by
  obtain ⟨e1, e2, e3, e4, e5, eL, ej⟩ := law_ix hi hL
  refine law_case (pc2 := 1195) (pc3 := 1209) (as := [.int (S (i + 1)), .int (S (i + 2))]) (p_ask (d := d + 110)) hR K ?_ (fun h1 r a b => ?_) (fun h2 r => ?_)
  · simp only [↓r300_1181, ↓r300_1182, ↓r300_1183, ↓r300_1184, ↓r300_1185, ↓r300_1186, ↓r300_1187, ↓r300_1188, ↓r300_1189, ↓r300_1190, ↓r300_1191, ↓r300_1192, zl_84, h84, h85, e1, e2, e3, e4, e5, eL, true_and, (ej 1 (by omega)).1, (ej 1 (by omega)).2, (ej 2 (by omega)).1, (ej 2 (by omega)).2]
  · simp only [↓r300_1195, ↓r300_1196, ↓r300_1197, ↓r300_1198, ↓r300_1199, ↓r300_1200, ↓r300_1201, ↓r300_1202, ↓r300_1203, ↓r300_1204, ↓r300_1205, ↓r300_1206, zl_84, a, b, h84, h85, e1, e2, e3, e4, e5, eL, true_and, (ej 1 (by omega)).1, (ej 1 (by omega)).2, (ej 2 (by omega)).1, (ej 2 (by omega)).2]
  · simp only [↓r300_1209, if_true]
theorem law_34 (hi : i + 6 ≤ Ln) (hL : Ln ≤ 3072) (h84 : h 84 = S) (h85 : h 85 0 = nI Ln) (hR : zRel h) (K : ∀ h2, zRel h2 → h2 84 = h 84 → h2 85 = h 85 → zR (d + 130) 300 Q 1375 (lawL i) [] h2) : zR (d + 130) 300 Q 1214 (lawL i) [] h := by
  obtain ⟨e1, e2, e3, e4, e5, eL, ej⟩ := law_ix hi hL
  refine law_case (pc2 := 1228) (pc3 := 1242) (as := [.int (S (i + 1)), .int (S (i + 2))]) (p_item (d := d + 110)) hR K ?_ (fun h1 r a b => ?_) (fun h2 r => ?_)
  · simp only [↓r300_1214, ↓r300_1215, ↓r300_1216, ↓r300_1217, ↓r300_1218, ↓r300_1219, ↓r300_1220, ↓r300_1221, ↓r300_1222, ↓r300_1223, ↓r300_1224, ↓r300_1225, zl_84, h84, h85, e1, e2, e3, e4, e5, eL, true_and, (ej 1 (by omega)).1, (ej 1 (by omega)).2, (ej 2 (by omega)).1, (ej 2 (by omega)).2]
  · simp only [↓r300_1228, ↓r300_1229, ↓r300_1230, ↓r300_1231, ↓r300_1232, ↓r300_1233, ↓r300_1234, ↓r300_1235, ↓r300_1236, ↓r300_1237, ↓r300_1238, ↓r300_1239, zl_84, a, b, h84, h85, e1, e2, e3, e4, e5, eL, true_and, (ej 1 (by omega)).1, (ej 1 (by omega)).2, (ej 2 (by omega)).1, (ej 2 (by omega)).2]
  · simp only [↓r300_1242, if_true]
theorem law_35 (hi : i + 6 ≤ Ln) (hL : Ln ≤ 3072) (h84 : h 84 = S) (h85 : h 85 0 = nI Ln) (hR : zRel h) (K : ∀ h2, zRel h2 → h2 84 = h 84 → h2 85 = h 85 → zR (d + 130) 300 Q 1375 (lawL i) [] h2) : zR (d + 130) 300 Q 1247 (lawL i) [] h := by
  obtain ⟨e1, e2, e3, e4, e5, eL, ej⟩ := law_ix hi hL
  refine law_case (pc2 := 1261) (pc3 := 1275) (as := [.int (S (i + 1)), .int (S (i + 2))]) (p_rest (d := d + 110)) hR K ?_ (fun h1 r a b => ?_) (fun h2 r => ?_)
  · simp only [↓r300_1247, ↓r300_1248, ↓r300_1249, ↓r300_1250, ↓r300_1251, ↓r300_1252, ↓r300_1253, ↓r300_1254, ↓r300_1255, ↓r300_1256, ↓r300_1257, ↓r300_1258, zl_84, h84, h85, e1, e2, e3, e4, e5, eL, true_and, (ej 1 (by omega)).1, (ej 1 (by omega)).2, (ej 2 (by omega)).1, (ej 2 (by omega)).2]
  · simp only [↓r300_1261, ↓r300_1262, ↓r300_1263, ↓r300_1264, ↓r300_1265, ↓r300_1266, ↓r300_1267, ↓r300_1268, ↓r300_1269, ↓r300_1270, ↓r300_1271, ↓r300_1272, zl_84, a, b, h84, h85, e1, e2, e3, e4, e5, eL, true_and, (ej 1 (by omega)).1, (ej 1 (by omega)).2, (ej 2 (by omega)).1, (ej 2 (by omega)).2]
  · simp only [↓r300_1275, if_true]
theorem law_36 (hi : i + 6 ≤ Ln) (hL : Ln ≤ 3072) (h84 : h 84 = S) (h85 : h 85 0 = nI Ln) (hR : zRel h) (K : ∀ h2, zRel h2 → h2 84 = h 84 → h2 85 = h 85 → zR (d + 130) 300 Q 1375 (lawL i) [] h2) : zR (d + 130) 300 Q 1280 (lawL i) [] h := by
  obtain ⟨e1, e2, e3, e4, e5, eL, ej⟩ := law_ix hi hL
  refine law_case (pc2 := 1289) (pc3 := 1298) (as := [.int (S (i + 1))]) (p_tell (d := d + 110)) hR K ?_ (fun h1 r a b => ?_) (fun h2 r => ?_)
  · simp only [↓r300_1280, ↓r300_1281, ↓r300_1282, ↓r300_1283, ↓r300_1284, ↓r300_1285, ↓r300_1286, zl_84, h84, h85, e1, e2, e3, e4, e5, eL, true_and, (ej 1 (by omega)).1, (ej 1 (by omega)).2]
  · simp only [↓r300_1289, ↓r300_1290, ↓r300_1291, ↓r300_1292, ↓r300_1293, ↓r300_1294, ↓r300_1295, zl_84, a, b, h84, h85, e1, e2, e3, e4, e5, eL, true_and, (ej 1 (by omega)).1, (ej 1 (by omega)).2]
  · simp only [↓r300_1298, if_true]
theorem law_37 (hi : i + 6 ≤ Ln) (hL : Ln ≤ 3072) (h84 : h 84 = S) (h85 : h 85 0 = nI Ln) (hR : zRel h) (K : ∀ h2, zRel h2 → h2 84 = h 84 → h2 85 = h 85 → zR (d + 130) 300 Q 1375 (lawL i) [] h2) : zR (d + 130) 300 Q 1303 (lawL i) [] h := by
  obtain ⟨e1, e2, e3, e4, e5, eL, ej⟩ := law_ix hi hL
  refine law_case (pc2 := 1312) (pc3 := 1321) (as := [.int (S (i + 1))]) (p_check (d := d + 110)) hR K ?_ (fun h1 r a b => ?_) (fun h2 r => ?_)
  · simp only [↓r300_1303, ↓r300_1304, ↓r300_1305, ↓r300_1306, ↓r300_1307, ↓r300_1308, ↓r300_1309, zl_84, h84, h85, e1, e2, e3, e4, e5, eL, true_and, (ej 1 (by omega)).1, (ej 1 (by omega)).2]
  · simp only [↓r300_1312, ↓r300_1313, ↓r300_1314, ↓r300_1315, ↓r300_1316, ↓r300_1317, ↓r300_1318, zl_84, a, b, h84, h85, e1, e2, e3, e4, e5, eL, true_and, (ej 1 (by omega)).1, (ej 1 (by omega)).2]
  · simp only [↓r300_1321, if_true]
theorem law_38 (hi : i + 6 ≤ Ln) (hL : Ln ≤ 3072) (h84 : h 84 = S) (h85 : h 85 0 = nI Ln) (hR : zRel h) (K : ∀ h2, zRel h2 → h2 84 = h 84 → h2 85 = h 85 → zR (d + 130) 300 Q 1375 (lawL i) [] h2) : zR (d + 130) 300 Q 1326 (lawL i) [] h := by
  obtain ⟨e1, e2, e3, e4, e5, eL, ej⟩ := law_ix hi hL
  refine law_case (pc2 := 1330) (pc3 := 1334) (as := []) (p_keep (d := d + 110)) hR K ?_ (fun h1 r a b => ?_) (fun h2 r => ?_)
  · simp only [↓r300_1326, ↓r300_1327, zl_84, h84, h85, e1, e2, e3, e4, e5, eL, true_and]
  · simp only [↓r300_1330, ↓r300_1331, zl_84, a, b, h84, h85, e1, e2, e3, e4, e5, eL, true_and]
  · simp only [↓r300_1334, if_true]
theorem law_39 (hi : i + 6 ≤ Ln) (hL : Ln ≤ 3072) (h84 : h 84 = S) (h85 : h 85 0 = nI Ln) (hR : zRel h) (K : ∀ h2, zRel h2 → h2 84 = h 84 → h2 85 = h 85 → zR (d + 130) 300 Q 1375 (lawL i) [] h2) : zR (d + 130) 300 Q 1339 (lawL i) [] h := by
  obtain ⟨e1, e2, e3, e4, e5, eL, ej⟩ := law_ix hi hL
  refine law_case (pc2 := 1343) (pc3 := 1347) (as := []) (p_back (d := d + 110)) hR K ?_ (fun h1 r a b => ?_) (fun h2 r => ?_)
  · simp only [↓r300_1339, ↓r300_1340, zl_84, h84, h85, e1, e2, e3, e4, e5, eL, true_and]
  · simp only [↓r300_1343, ↓r300_1344, zl_84, a, b, h84, h85, e1, e2, e3, e4, e5, eL, true_and]
  · simp only [↓r300_1347, if_true]
theorem law_40 (hi : i + 6 ≤ Ln) (hL : Ln ≤ 3072) (h84 : h 84 = S) (h85 : h 85 0 = nI Ln) (hR : zRel h) (K : ∀ h2, zRel h2 → h2 84 = h 84 → h2 85 = h 85 → zR (d + 130) 300 Q 1375 (lawL i) [] h2) : zR (d + 130) 300 Q 1352 (lawL i) [] h := by
  obtain ⟨e1, e2, e3, e4, e5, eL, ej⟩ := law_ix hi hL
  refine law_case (pc2 := 1361) (pc3 := 1370) (as := [.int (S (i + 1))]) (p_count (d := d + 110)) hR K ?_ (fun h1 r a b => ?_) (fun h2 r => ?_)
  · simp only [↓r300_1352, ↓r300_1353, ↓r300_1354, ↓r300_1355, ↓r300_1356, ↓r300_1357, ↓r300_1358, zl_84, h84, h85, e1, e2, e3, e4, e5, eL, true_and, (ej 1 (by omega)).1, (ej 1 (by omega)).2]
  · simp only [↓r300_1361, ↓r300_1362, ↓r300_1363, ↓r300_1364, ↓r300_1365, ↓r300_1366, ↓r300_1367, zl_84, a, b, h84, h85, e1, e2, e3, e4, e5, eL, true_and, (ej 1 (by omega)).1, (ej 1 (by omega)).2]
  · simp only [↓r300_1370, if_true]
theorem law_loop (hL : Ln ≤ 3072) (hQ : ∀ h', Q (some (.int 1)) h') : ∀ (f i : Nat) (h : zH), Ln ≤ i + f → i ≤ 4000 → zRel h → h 84 = S → h 85 0 = nI Ln → zR (d + 130) 300 Q 18 (lawL i) [] h := by
  intro f
  induction f with
  | zero =>
    intro i h hf hi hR h84 h85
    have g : ¬ nI i ≤ nI Ln - 6 := by
      rcases Nat.lt_or_ge Ln 6 with q | q
      · rcases (by omega : Ln = 0 ∨ Ln = 1 ∨ Ln = 2 ∨ Ln = 3 ∨ Ln = 4 ∨ Ln = 5) with rfl | rfl | rfl | rfl | rfl | rfl <;> exact fun z => absurd (Int32.le_trans (nI_pos' (n := i) (by omega)) z) (by decide)
      · rw [show nI Ln - 6 = nI (Ln - 6) from nI_sub q, nI_leI (by omega) (by omega)]; omega
    simp only [↓r300_18, ↓r300_19, ↓r300_20, ↓r300_21, ↓r300_23, ↓r300_24, zn_84, h85, if_neg g, ↓r300_1381, ↓r300_1382t]
    exact hQ h
  | succ f ih =>
    intro i h hf hi hR h84 h85
    by_cases hi6 : i + 6 ≤ Ln
    · have g : nI i ≤ nI Ln - 6 := by
        rw [show nI Ln - 6 = nI (Ln - 6) from nI_sub (a := Ln) (b := 6) (by omega)]
        exact nI_le (by omega) (by omega)
      have K : ∀ h2, zRel h2 → h2 84 = h 84 → h2 85 = h 85 → zR (d + 130) 300 Q 1375 (lawL i) [] h2 := by
        intro h2 a b c
        have e6 : nI i + 6 = nI (i + 6) := nI_add _ 6
        simp only [↓r300_1375, ↓r300_1378, e6]
        exact ih (i + 6) h2 (by omega) (by omega) a (b.trans h84) (by rw [c]; exact h85)
      have eL : zix (nI Ln) = Ln := zix_nI (by omega)
      simp only [↓r300_18, ↓r300_19, ↓r300_20, ↓r300_21, ↓r300_23, ↓r300_24, zn_84, h85, if_pos g, ↓r300_27, ↓r300_28, ↓r300_29, ↓r300_30, ↓r300_32, zl_84, eL, zok_nI (by omega : i < Ln) (by omega), zix_nI (by omega : i < 2 ^ 31), h84, true_and]
      rw [r300_33]
      generalize S i &&& 63 = v

      by_cases q0 : v = 0
      · rw [if_pos q0]; exact law_0 hi6 hL h84 h85 hR K
      rw [if_neg q0]
      by_cases q1 : v = 1
      · rw [if_pos q1]; exact law_1 hi6 hL h84 h85 hR K
      rw [if_neg q1]
      by_cases q2 : v = 2
      · rw [if_pos q2]; exact law_2 hi6 hL h84 h85 hR K
      rw [if_neg q2]
      by_cases q3 : v = 3
      · rw [if_pos q3]; exact law_3 hi6 hL h84 h85 hR K
      rw [if_neg q3]
      by_cases q4 : v = 4
      · rw [if_pos q4]; exact law_4 hi6 hL h84 h85 hR K
      rw [if_neg q4]
      by_cases q5 : v = 5
      · rw [if_pos q5]; exact law_5 hi6 hL h84 h85 hR K
      rw [if_neg q5]
      by_cases q6 : v = 6
      · rw [if_pos q6]; exact law_6 hi6 hL h84 h85 hR K
      rw [if_neg q6]
      by_cases q7 : v = 7
      · rw [if_pos q7]; exact law_7 hi6 hL h84 h85 hR K
      rw [if_neg q7]
      by_cases q8 : v = 8
      · rw [if_pos q8]; exact law_8 hi6 hL h84 h85 hR K
      rw [if_neg q8]
      by_cases q9 : v = 9
      · rw [if_pos q9]; exact law_9 hi6 hL h84 h85 hR K
      rw [if_neg q9]
      by_cases q10 : v = 10
      · rw [if_pos q10]; exact law_10 hi6 hL h84 h85 hR K
      rw [if_neg q10]
      by_cases q11 : v = 11
      · rw [if_pos q11]; exact law_11 hi6 hL h84 h85 hR K
      rw [if_neg q11]
      by_cases q12 : v = 12
      · rw [if_pos q12]; exact law_12 hi6 hL h84 h85 hR K
      rw [if_neg q12]
      by_cases q13 : v = 13
      · rw [if_pos q13]; exact law_13 hi6 hL h84 h85 hR K
      rw [if_neg q13]
      by_cases q14 : v = 14
      · rw [if_pos q14]; exact law_14 hi6 hL h84 h85 hR K
      rw [if_neg q14]
      by_cases q15 : v = 15
      · rw [if_pos q15]; exact law_15 hi6 hL h84 h85 hR K
      rw [if_neg q15]
      by_cases q16 : v = 16
      · rw [if_pos q16]; exact law_16 hi6 hL h84 h85 hR K
      rw [if_neg q16]
      by_cases q17 : v = 17
      · rw [if_pos q17]; exact law_17 hi6 hL h84 h85 hR K
      rw [if_neg q17]
      by_cases q18 : v = 18
      · rw [if_pos q18]; exact law_18 hi6 hL h84 h85 hR K
      rw [if_neg q18]
      by_cases q19 : v = 19
      · rw [if_pos q19]; exact law_19 hi6 hL h84 h85 hR K
      rw [if_neg q19]
      by_cases q20 : v = 20
      · rw [if_pos q20]; exact law_20 hi6 hL h84 h85 hR K
      rw [if_neg q20]
      by_cases q21 : v = 21
      · rw [if_pos q21]; exact law_21 hi6 hL h84 h85 hR K
      rw [if_neg q21]
      by_cases q22 : v = 22
      · rw [if_pos q22]; exact law_22 hi6 hL h84 h85 hR K
      rw [if_neg q22]
      by_cases q23 : v = 23
      · rw [if_pos q23]; exact law_23 hi6 hL h84 h85 hR K
      rw [if_neg q23]
      by_cases q24 : v = 24
      · rw [if_pos q24]; exact law_24 hi6 hL h84 h85 hR K
      rw [if_neg q24]
      by_cases q25 : v = 25
      · rw [if_pos q25]; exact law_25 hi6 hL h84 h85 hR K
      rw [if_neg q25]
      by_cases q26 : v = 26
      · rw [if_pos q26]; exact law_26 hi6 hL h84 h85 hR K
      rw [if_neg q26]
      by_cases q27 : v = 27
      · rw [if_pos q27]; exact law_27 hi6 hL h84 h85 hR K
      rw [if_neg q27]
      by_cases q28 : v = 28
      · rw [if_pos q28]; exact law_28 hi6 hL h84 h85 hR K
      rw [if_neg q28]
      by_cases q29 : v = 29
      · rw [if_pos q29]; exact law_29 hi6 hL h84 h85 hR K
      rw [if_neg q29]
      by_cases q30 : v = 30
      · rw [if_pos q30]; exact law_30 hi6 hL h84 h85 hR K
      rw [if_neg q30]
      by_cases q31 : v = 31
      · rw [if_pos q31]; exact law_31 hi6 hL h84 h85 hR K
      rw [if_neg q31]
      by_cases q32 : v = 32
      · rw [if_pos q32]; exact law_32 hi6 hL h84 h85 hR K
      rw [if_neg q32]
      by_cases q33 : v = 33
      · rw [if_pos q33]; exact law_33 hi6 hL h84 h85 hR K
      rw [if_neg q33]
      by_cases q34 : v = 34
      · rw [if_pos q34]; exact law_34 hi6 hL h84 h85 hR K
      rw [if_neg q34]
      by_cases q35 : v = 35
      · rw [if_pos q35]; exact law_35 hi6 hL h84 h85 hR K
      rw [if_neg q35]
      by_cases q36 : v = 36
      · rw [if_pos q36]; exact law_36 hi6 hL h84 h85 hR K
      rw [if_neg q36]
      by_cases q37 : v = 37
      · rw [if_pos q37]; exact law_37 hi6 hL h84 h85 hR K
      rw [if_neg q37]
      by_cases q38 : v = 38
      · rw [if_pos q38]; exact law_38 hi6 hL h84 h85 hR K
      rw [if_neg q38]
      by_cases q39 : v = 39
      · rw [if_pos q39]; exact law_39 hi6 hL h84 h85 hR K
      rw [if_neg q39]
      by_cases q40 : v = 40
      · rw [if_pos q40]; exact law_40 hi6 hL h84 h85 hR K
      rw [if_neg q40]
      exact K h hR rfl rfl
    · have g : ¬ nI i ≤ nI Ln - 6 := by
        rcases Nat.lt_or_ge Ln 6 with q | q
        · rcases (by omega : Ln = 0 ∨ Ln = 1 ∨ Ln = 2 ∨ Ln = 3 ∨ Ln = 4 ∨ Ln = 5) with rfl | rfl | rfl | rfl | rfl | rfl <;> exact fun z => absurd (Int32.le_trans (nI_pos' (n := i) (by omega)) z) (by decide)
        · rw [show nI Ln - 6 = nI (Ln - 6) from nI_sub q, nI_leI (by omega) (by omega)]; omega
      simp only [↓r300_18, ↓r300_19, ↓r300_20, ↓r300_21, ↓r300_23, ↓r300_24, zn_84, h85, if_neg g, ↓r300_1381, ↓r300_1382t]
      exact hQ h
end
