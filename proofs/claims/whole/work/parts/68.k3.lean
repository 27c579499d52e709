/-! the law: each kind of call -/
def Go (pc : Nat) (h : tw_H) (i : Nat) : Prop := ∃ h2, tw_b 178 pc [.ref 0, .ref 1, .ref 27, .int (nI i)] [] h = tw_b 178 1177 [.ref 0, .ref 1, .ref 27, .int (nI i)] [] h2 ∧ Inv h2 ∧ h2.2.2 0 = h.2.2 0 ∧ h2.1 ≤ h.1 + 10 ∧ h2.2.1 ≤ h.2.1 + 100
theorem lg_same (x : Int64) : lg_cmp x x = 0 := by
  have h1 := lg_cmp_lt x x
  have h2 := lg_cmp_gt x x
  have e1 : ¬ lg_cmp x x < 0 := fun z => Int64.lt_irrefl (h1.mp z)
  have e2 : ¬ 0 < lg_cmp x x := fun z => Int64.lt_irrefl (h2.mp z)
  rw [Int32.lt_iff_toInt_lt] at e1 e2
  rw [← Int32.toInt_inj]
  have z : (0 : Int32).toInt = 0 := rfl
  omega
section LAW
variable {h : tw_H} {L i : Nat} {xs : Nat → Int32}
theorem ia_s (h0 : h.2.2 0 = some (iC L xs)) (hL : L ≤ 384) {c : Nat} (hi : i + c < L) : tw_ia h 0 (nI i + nI c) = some (.int (xs (i + c))) := by
  have ev := tw_vi_n (show i + c < L by omega) (by omega)
  have ec := nI_clamp (show i + c < 2 ^ 31 by omega)
  rw [nI_add]
  simp [tw_ia, h0, ev, ec]
theorem l_town (I : Inv h) (h0 : h.2.2 0 = some (iC L xs)) (hL : L ≤ 384) (hi : i + 6 ≤ L) : Go 180 h i := by
  obtain ⟨v, h1, h2, e1, e2, z1, k1, I2, z2, b1, b2⟩ := two_int (c_town I (xs (i + 1)) (xs (i + 2)) (xs (i + 3)) (xs (i + 4))) I (by decide +kernel)
  have cx := I.cox
  have q1 := ia_s h0 hL (i := i) (c := 1) (by omega)
  have y1 := ia_s (z1.trans h0) hL (i := i) (c := 1) (by omega)
  rw [show nI 1 = 1 from rfl] at q1 y1
  have q2 := ia_s h0 hL (i := i) (c := 2) (by omega)
  have y2 := ia_s (z1.trans h0) hL (i := i) (c := 2) (by omega)
  rw [show nI 2 = 2 from rfl] at q2 y2
  have q3 := ia_s h0 hL (i := i) (c := 3) (by omega)
  have y3 := ia_s (z1.trans h0) hL (i := i) (c := 3) (by omega)
  rw [show nI 3 = 3 from rfl] at q3 y3
  have q4 := ia_s h0 hL (i := i) (c := 4) (by omega)
  have y4 := ia_s (z1.trans h0) hL (i := i) (c := 4) (by omega)
  rw [show nI 4 = 4 from rfl] at q4 y4
  refine ⟨h2, ?_, I2, z2, b1, b2⟩
  simp [s178_180, s178_181, s178_182, s178_183, s178_184, s178_185, s178_186, s178_187, s178_188, s178_189, s178_190, s178_191, s178_192, s178_193, s178_194, s178_195, s178_196, s178_197, s178_198, s178_199, s178_200, s178_201, s178_204, s178_205, s178_206, s178_207, s178_208, s178_209, s178_210, s178_211, s178_212, s178_213, s178_214, s178_215, s178_216, s178_217, s178_218, s178_219, s178_220, s178_221, s178_222, s178_223, s178_224, s178_225, s178_228, s178_231, s178_232, cx, k1, e1, e2, q1, y1, q2, y2, q3, y3, q4, y4]
theorem l_ofWork (I : Inv h) (h0 : h.2.2 0 = some (iC L xs)) (hL : L ≤ 384) (hi : i + 6 ≤ L) : Go 233 h i := by
  obtain ⟨v, h1, h2, e1, e2, z1, k1, I2, z2, b1, b2⟩ := two_int (c_ofWork I (xs (i + 1)) (xs (i + 2))) I (by decide +kernel)
  have cx := I.cox
  have q1 := ia_s h0 hL (i := i) (c := 1) (by omega)
  have y1 := ia_s (z1.trans h0) hL (i := i) (c := 1) (by omega)
  rw [show nI 1 = 1 from rfl] at q1 y1
  have q2 := ia_s h0 hL (i := i) (c := 2) (by omega)
  have y2 := ia_s (z1.trans h0) hL (i := i) (c := 2) (by omega)
  rw [show nI 2 = 2 from rfl] at q2 y2
  refine ⟨h2, ?_, I2, z2, b1, b2⟩
  simp [s178_233, s178_234, s178_235, s178_236, s178_237, s178_238, s178_239, s178_240, s178_241, s178_242, s178_243, s178_244, s178_247, s178_248, s178_249, s178_250, s178_251, s178_252, s178_253, s178_254, s178_255, s178_256, s178_257, s178_258, s178_261, s178_264, s178_265, cx, k1, e1, e2, q1, y1, q2, y2]
theorem l_law (I : Inv h) (h0 : h.2.2 0 = some (iC L xs)) (hL : L ≤ 384) (hi : i + 6 ≤ L) : Go 266 h i := by
  obtain ⟨v, h1, h2, e1, e2, z1, k1, I2, z2, b1, b2⟩ := two_int (c_law I (xs (i + 1))) I (by decide +kernel)
  have cx := I.cox
  have q1 := ia_s h0 hL (i := i) (c := 1) (by omega)
  have y1 := ia_s (z1.trans h0) hL (i := i) (c := 1) (by omega)
  rw [show nI 1 = 1 from rfl] at q1 y1
  refine ⟨h2, ?_, I2, z2, b1, b2⟩
  simp [s178_266, s178_267, s178_268, s178_269, s178_270, s178_271, s178_272, s178_275, s178_276, s178_277, s178_278, s178_279, s178_280, s178_281, s178_284, s178_287, s178_288, cx, k1, e1, e2, q1, y1]
theorem l_start (I : Inv h) (h0 : h.2.2 0 = some (iC L xs)) (hL : L ≤ 384) (hi : i + 6 ≤ L) : Go 289 h i := by
  obtain ⟨v, h1, h2, e1, e2, z1, k1, I2, z2, b1, b2⟩ := two_int (c_start I (xs (i + 1))) I (by decide +kernel)
  have cx := I.cox
  have q1 := ia_s h0 hL (i := i) (c := 1) (by omega)
  have y1 := ia_s (z1.trans h0) hL (i := i) (c := 1) (by omega)
  rw [show nI 1 = 1 from rfl] at q1 y1
  refine ⟨h2, ?_, I2, z2, b1, b2⟩
  simp [s178_289, s178_290, s178_291, s178_292, s178_293, s178_294, s178_295, s178_298, s178_299, s178_300, s178_301, s178_302, s178_303, s178_304, s178_307, s178_310, s178_311, cx, k1, e1, e2, q1, y1]
theorem l_hookT (I : Inv h) (h0 : h.2.2 0 = some (iC L xs)) (hL : L ≤ 384) (hi : i + 6 ≤ L) (b : ¬ xs (i + 2) = 0) : Go 312 h i := by
  obtain ⟨v, h1, h2, e1, e2, z1, k1, I2, z2, b1, b2⟩ := two_int (c_hook I (xs (i + 1)) true) I (by decide +kernel)
  rw [tw_bi_t] at e1 e2
  have cx := I.cox
  have q1 := ia_s h0 hL (i := i) (c := 1) (by omega)
  have y1 := ia_s (z1.trans h0) hL (i := i) (c := 1) (by omega)
  rw [show nI 1 = 1 from rfl] at q1 y1
  have q2 := ia_s h0 hL (i := i) (c := 2) (by omega)
  have y2 := ia_s (z1.trans h0) hL (i := i) (c := 2) (by omega)
  rw [show nI 2 = 2 from rfl] at q2 y2
  refine ⟨h2, ?_, I2, z2, b1, b2⟩
  simp [s178_312, s178_313, s178_314, s178_315, s178_316, s178_317, s178_318, s178_319, s178_320, s178_321, s178_322, s178_323, s178_326, s178_327, s178_330, s178_331, s178_334, s178_335, s178_336, s178_337, s178_338, s178_339, s178_340, s178_341, s178_342, s178_343, s178_344, s178_345, s178_348, s178_349, s178_352, s178_353, s178_356, s178_359, s178_360, cx, k1, e1, e2, q1, y1, q2, y2, b]
theorem l_hookF (I : Inv h) (h0 : h.2.2 0 = some (iC L xs)) (hL : L ≤ 384) (hi : i + 6 ≤ L) (b : xs (i + 2) = 0) : Go 312 h i := by
  obtain ⟨v, h1, h2, e1, e2, z1, k1, I2, z2, b1, b2⟩ := two_int (c_hook I (xs (i + 1)) false) I (by decide +kernel)
  rw [tw_bi_f] at e1 e2
  have cx := I.cox
  have q1 := ia_s h0 hL (i := i) (c := 1) (by omega)
  have y1 := ia_s (z1.trans h0) hL (i := i) (c := 1) (by omega)
  rw [show nI 1 = 1 from rfl] at q1 y1
  have q2 := ia_s h0 hL (i := i) (c := 2) (by omega)
  have y2 := ia_s (z1.trans h0) hL (i := i) (c := 2) (by omega)
  rw [show nI 2 = 2 from rfl] at q2 y2
  refine ⟨h2, ?_, I2, z2, b1, b2⟩
  simp [s178_312, s178_313, s178_314, s178_315, s178_316, s178_317, s178_318, s178_319, s178_320, s178_321, s178_322, s178_323, s178_326, s178_327, s178_330, s178_331, s178_334, s178_335, s178_336, s178_337, s178_338, s178_339, s178_340, s178_341, s178_342, s178_343, s178_344, s178_345, s178_348, s178_349, s178_352, s178_353, s178_356, s178_359, s178_360, cx, k1, e1, e2, q1, y1, q2, y2, b]
theorem l_storm (I : Inv h) (h0 : h.2.2 0 = some (iC L xs)) (hL : L ≤ 384) (hi : i + 6 ≤ L) : Go 361 h i := by
  obtain ⟨v, h1, h2, e1, e2, z1, k1, I2, z2, b1, b2⟩ := two_int (c_storm I (xs (i + 1)) (xs (i + 2))) I (by decide +kernel)
  have cx := I.cox
  have q1 := ia_s h0 hL (i := i) (c := 1) (by omega)
  have y1 := ia_s (z1.trans h0) hL (i := i) (c := 1) (by omega)
  rw [show nI 1 = 1 from rfl] at q1 y1
  have q2 := ia_s h0 hL (i := i) (c := 2) (by omega)
  have y2 := ia_s (z1.trans h0) hL (i := i) (c := 2) (by omega)
  rw [show nI 2 = 2 from rfl] at q2 y2
  refine ⟨h2, ?_, I2, z2, b1, b2⟩
  simp [s178_361, s178_362, s178_363, s178_364, s178_365, s178_366, s178_367, s178_368, s178_369, s178_370, s178_371, s178_372, s178_375, s178_376, s178_377, s178_378, s178_379, s178_380, s178_381, s178_382, s178_383, s178_384, s178_385, s178_386, s178_389, s178_392, s178_393, cx, k1, e1, e2, q1, y1, q2, y2]
theorem l_calm (I : Inv h) (h0 : h.2.2 0 = some (iC L xs)) (hL : L ≤ 384) (hi : i + 6 ≤ L) : Go 394 h i := by
  obtain ⟨v, h1, h2, e1, e2, z1, k1, I2, z2, b1, b2⟩ := two_int (c_calm I (xs (i + 1))) I (by decide +kernel)
  have cx := I.cox
  have q1 := ia_s h0 hL (i := i) (c := 1) (by omega)
  have y1 := ia_s (z1.trans h0) hL (i := i) (c := 1) (by omega)
  rw [show nI 1 = 1 from rfl] at q1 y1
  refine ⟨h2, ?_, I2, z2, b1, b2⟩
  simp [s178_394, s178_395, s178_396, s178_397, s178_398, s178_399, s178_400, s178_403, s178_404, s178_405, s178_406, s178_407, s178_408, s178_409, s178_412, s178_415, s178_416, cx, k1, e1, e2, q1, y1]
theorem l_strength (I : Inv h) (h0 : h.2.2 0 = some (iC L xs)) (hL : L ≤ 384) (hi : i + 6 ≤ L) : Go 417 h i := by
  obtain ⟨v, h1, h2, e1, e2, z1, k1, I2, z2, b1, b2⟩ := two_int (c_strength I (xs (i + 1))) I (by decide +kernel)
  have cx := I.cox
  have q1 := ia_s h0 hL (i := i) (c := 1) (by omega)
  have y1 := ia_s (z1.trans h0) hL (i := i) (c := 1) (by omega)
  rw [show nI 1 = 1 from rfl] at q1 y1
  refine ⟨h2, ?_, I2, z2, b1, b2⟩
  simp [s178_417, s178_418, s178_419, s178_420, s178_421, s178_422, s178_423, s178_426, s178_427, s178_428, s178_429, s178_430, s178_431, s178_432, s178_435, s178_438, s178_439, cx, k1, e1, e2, q1, y1]
theorem l_goes (I : Inv h) (h0 : h.2.2 0 = some (iC L xs)) (hL : L ≤ 384) (hi : i + 6 ≤ L) : Go 440 h i := by
  obtain ⟨v, h1, h2, e1, e2, z1, k1, I2, z2, b1, b2⟩ := two_int (c_goes I (xs (i + 1))) I (by decide +kernel)
  have cx := I.cox
  have q1 := ia_s h0 hL (i := i) (c := 1) (by omega)
  have y1 := ia_s (z1.trans h0) hL (i := i) (c := 1) (by omega)
  rw [show nI 1 = 1 from rfl] at q1 y1
  refine ⟨h2, ?_, I2, z2, b1, b2⟩
  simp [s178_440, s178_441, s178_442, s178_443, s178_444, s178_445, s178_446, s178_449, s178_450, s178_451, s178_452, s178_453, s178_454, s178_455, s178_458, s178_461, s178_462, cx, k1, e1, e2, q1, y1]
theorem l_late (I : Inv h) (h0 : h.2.2 0 = some (iC L xs)) (hL : L ≤ 384) (hi : i + 6 ≤ L) : Go 463 h i := by
  obtain ⟨v, h1, h2, e1, e2, z1, k1, I2, z2, b1, b2⟩ := two_int (c_late I (xs (i + 1)) (xs (i + 2))) I (by decide +kernel)
  have cx := I.cox
  have q1 := ia_s h0 hL (i := i) (c := 1) (by omega)
  have y1 := ia_s (z1.trans h0) hL (i := i) (c := 1) (by omega)
  rw [show nI 1 = 1 from rfl] at q1 y1
  have q2 := ia_s h0 hL (i := i) (c := 2) (by omega)
  have y2 := ia_s (z1.trans h0) hL (i := i) (c := 2) (by omega)
  rw [show nI 2 = 2 from rfl] at q2 y2
  refine ⟨h2, ?_, I2, z2, b1, b2⟩
  simp [s178_463, s178_464, s178_465, s178_466, s178_467, s178_468, s178_469, s178_470, s178_471, s178_472, s178_473, s178_474, s178_477, s178_478, s178_479, s178_480, s178_481, s178_482, s178_483, s178_484, s178_485, s178_486, s178_487, s178_488, s178_491, s178_494, s178_495, cx, k1, e1, e2, q1, y1, q2, y2]
theorem l_all (I : Inv h) (h0 : h.2.2 0 = some (iC L xs)) (hL : L ≤ 384) (hi : i + 6 ≤ L) : Go 496 h i := by
  obtain ⟨v, h1, h2, e1, e2, z1, k1, I2, z2, b1, b2⟩ := two_int (c_all I (xs (i + 1))) I (by decide +kernel)
  have cx := I.cox
  have q1 := ia_s h0 hL (i := i) (c := 1) (by omega)
  have y1 := ia_s (z1.trans h0) hL (i := i) (c := 1) (by omega)
  rw [show nI 1 = 1 from rfl] at q1 y1
  refine ⟨h2, ?_, I2, z2, b1, b2⟩
  simp [s178_496, s178_497, s178_498, s178_499, s178_500, s178_501, s178_502, s178_505, s178_506, s178_507, s178_508, s178_509, s178_510, s178_511, s178_514, s178_517, s178_518, cx, k1, e1, e2, q1, y1]
theorem l_alike (I : Inv h) (h0 : h.2.2 0 = some (iC L xs)) (hL : L ≤ 384) (hi : i + 6 ≤ L) : Go 519 h i := by
  obtain ⟨v, h1, h2, e1, e2, z1, k1, I2, z2, b1, b2⟩ := two_int (c_alike I (xs (i + 1))) I (by decide +kernel)
  have cx := I.cox
  have q1 := ia_s h0 hL (i := i) (c := 1) (by omega)
  have y1 := ia_s (z1.trans h0) hL (i := i) (c := 1) (by omega)
  rw [show nI 1 = 1 from rfl] at q1 y1
  refine ⟨h2, ?_, I2, z2, b1, b2⟩
  simp [s178_519, s178_520, s178_521, s178_522, s178_523, s178_524, s178_525, s178_528, s178_529, s178_530, s178_531, s178_532, s178_533, s178_534, s178_537, s178_540, s178_541, cx, k1, e1, e2, q1, y1]
theorem l_fewest (I : Inv h) (h0 : h.2.2 0 = some (iC L xs)) (hL : L ≤ 384) (hi : i + 6 ≤ L) : Go 542 h i := by
  obtain ⟨v, h1, h2, e1, e2, z1, k1, I2, z2, b1, b2⟩ := two_int (c_fewest I (xs (i + 1)) (xs (i + 2)) (xs (i + 3))) I (by decide +kernel)
  have cx := I.cox
  have q1 := ia_s h0 hL (i := i) (c := 1) (by omega)
  have y1 := ia_s (z1.trans h0) hL (i := i) (c := 1) (by omega)
  rw [show nI 1 = 1 from rfl] at q1 y1
  have q2 := ia_s h0 hL (i := i) (c := 2) (by omega)
  have y2 := ia_s (z1.trans h0) hL (i := i) (c := 2) (by omega)
  rw [show nI 2 = 2 from rfl] at q2 y2
  have q3 := ia_s h0 hL (i := i) (c := 3) (by omega)
  have y3 := ia_s (z1.trans h0) hL (i := i) (c := 3) (by omega)
  rw [show nI 3 = 3 from rfl] at q3 y3
  refine ⟨h2, ?_, I2, z2, b1, b2⟩
  simp [s178_542, s178_543, s178_544, s178_545, s178_546, s178_547, s178_548, s178_549, s178_550, s178_551, s178_552, s178_553, s178_554, s178_555, s178_556, s178_557, s178_558, s178_561, s178_562, s178_563, s178_564, s178_565, s178_566, s178_567, s178_568, s178_569, s178_570, s178_571, s178_572, s178_573, s178_574, s178_575, s178_576, s178_577, s178_580, s178_583, s178_584, cx, k1, e1, e2, q1, y1, q2, y2, q3, y3]
theorem l_help (I : Inv h) (h0 : h.2.2 0 = some (iC L xs)) (hL : L ≤ 384) (hi : i + 6 ≤ L) : Go 585 h i := by
  obtain ⟨v, h1, h2, e1, e2, z1, k1, I2, z2, b1, b2⟩ := two_int (c_help I (xs (i + 1)) (xs (i + 2))) I (by decide +kernel)
  have cx := I.cox
  have q1 := ia_s h0 hL (i := i) (c := 1) (by omega)
  have y1 := ia_s (z1.trans h0) hL (i := i) (c := 1) (by omega)
  rw [show nI 1 = 1 from rfl] at q1 y1
  have q2 := ia_s h0 hL (i := i) (c := 2) (by omega)
  have y2 := ia_s (z1.trans h0) hL (i := i) (c := 2) (by omega)
  rw [show nI 2 = 2 from rfl] at q2 y2
  refine ⟨h2, ?_, I2, z2, b1, b2⟩
  simp [s178_585, s178_586, s178_587, s178_588, s178_589, s178_590, s178_591, s178_592, s178_593, s178_594, s178_595, s178_596, s178_599, s178_600, s178_601, s178_602, s178_603, s178_604, s178_605, s178_606, s178_607, s178_608, s178_609, s178_610, s178_613, s178_616, s178_617, cx, k1, e1, e2, q1, y1, q2, y2]
theorem l_plan (I : Inv h) (h0 : h.2.2 0 = some (iC L xs)) (hL : L ≤ 384) (hi : i + 6 ≤ L) : Go 618 h i := by
  obtain ⟨v, h1, h2, e1, e2, z1, k1, I2, z2, b1, b2⟩ := two_int (c_plan I (xs (i + 1)) (xs (i + 2)) (xs (i + 3)) (xs (i + 4))) I (by decide +kernel)
  have cx := I.cox
  have q1 := ia_s h0 hL (i := i) (c := 1) (by omega)
  have y1 := ia_s (z1.trans h0) hL (i := i) (c := 1) (by omega)
  rw [show nI 1 = 1 from rfl] at q1 y1
  have q2 := ia_s h0 hL (i := i) (c := 2) (by omega)
  have y2 := ia_s (z1.trans h0) hL (i := i) (c := 2) (by omega)
  rw [show nI 2 = 2 from rfl] at q2 y2
  have q3 := ia_s h0 hL (i := i) (c := 3) (by omega)
  have y3 := ia_s (z1.trans h0) hL (i := i) (c := 3) (by omega)
  rw [show nI 3 = 3 from rfl] at q3 y3
  have q4 := ia_s h0 hL (i := i) (c := 4) (by omega)
  have y4 := ia_s (z1.trans h0) hL (i := i) (c := 4) (by omega)
  rw [show nI 4 = 4 from rfl] at q4 y4
  refine ⟨h2, ?_, I2, z2, b1, b2⟩
  simp [s178_618, s178_619, s178_620, s178_621, s178_622, s178_623, s178_624, s178_625, s178_626, s178_627, s178_628, s178_629, s178_630, s178_631, s178_632, s178_633, s178_634, s178_635, s178_636, s178_637, s178_638, s178_639, s178_642, s178_643, s178_644, s178_645, s178_646, s178_647, s178_648, s178_649, s178_650, s178_651, s178_652, s178_653, s178_654, s178_655, s178_656, s178_657, s178_658, s178_659, s178_660, s178_661, s178_662, s178_663, s178_666, s178_669, s178_670, cx, k1, e1, e2, q1, y1, q2, y2, q3, y3, q4, y4]
theorem l_reading (I : Inv h) (h0 : h.2.2 0 = some (iC L xs)) (hL : L ≤ 384) (hi : i + 6 ≤ L) : Go 671 h i := by
  obtain ⟨v, h1, h2, e1, e2, z1, k1, I2, z2, b1, b2⟩ := two_int (c_reading I (xs (i + 1)) (xs (i + 2)) (xs (i + 3))) I (by decide +kernel)
  have cx := I.cox
  have q1 := ia_s h0 hL (i := i) (c := 1) (by omega)
  have y1 := ia_s (z1.trans h0) hL (i := i) (c := 1) (by omega)
  rw [show nI 1 = 1 from rfl] at q1 y1
  have q2 := ia_s h0 hL (i := i) (c := 2) (by omega)
  have y2 := ia_s (z1.trans h0) hL (i := i) (c := 2) (by omega)
  rw [show nI 2 = 2 from rfl] at q2 y2
  have q3 := ia_s h0 hL (i := i) (c := 3) (by omega)
  have y3 := ia_s (z1.trans h0) hL (i := i) (c := 3) (by omega)
  rw [show nI 3 = 3 from rfl] at q3 y3
  refine ⟨h2, ?_, I2, z2, b1, b2⟩
  simp [s178_671, s178_672, s178_673, s178_674, s178_675, s178_676, s178_677, s178_678, s178_679, s178_680, s178_681, s178_682, s178_683, s178_684, s178_685, s178_686, s178_687, s178_690, s178_691, s178_692, s178_693, s178_694, s178_695, s178_696, s178_697, s178_698, s178_699, s178_700, s178_701, s178_702, s178_703, s178_704, s178_705, s178_706, s178_709, s178_712, s178_713, cx, k1, e1, e2, q1, y1, q2, y2, q3, y3]
theorem l_back (I : Inv h) (h0 : h.2.2 0 = some (iC L xs)) (hL : L ≤ 384) (hi : i + 6 ≤ L) : Go 714 h i := by
  obtain ⟨v, h1, h2, e1, e2, z1, k1, I2, z2, b1, b2⟩ := two_int (c_back I (xs (i + 1))) I (by decide +kernel)
  have cx := I.cox
  have q1 := ia_s h0 hL (i := i) (c := 1) (by omega)
  have y1 := ia_s (z1.trans h0) hL (i := i) (c := 1) (by omega)
  rw [show nI 1 = 1 from rfl] at q1 y1
  refine ⟨h2, ?_, I2, z2, b1, b2⟩
  simp [s178_714, s178_715, s178_716, s178_717, s178_718, s178_719, s178_720, s178_723, s178_724, s178_725, s178_726, s178_727, s178_728, s178_729, s178_732, s178_735, s178_736, cx, k1, e1, e2, q1, y1]
theorem l_starts (I : Inv h) (h0 : h.2.2 0 = some (iC L xs)) (hL : L ≤ 384) (hi : i + 6 ≤ L) : Go 737 h i := by
  obtain ⟨v, h1, h2, e1, e2, z1, k1, I2, z2, b1, b2⟩ := two_int (c_starts I) I (by decide +kernel)
  have cx := I.cox
  refine ⟨h2, ?_, I2, z2, b1, b2⟩
  simp [s178_737, s178_738, s178_741, s178_742, s178_745, s178_748, s178_749, cx, k1, e1, e2]
theorem l_laws (I : Inv h) (h0 : h.2.2 0 = some (iC L xs)) (hL : L ≤ 384) (hi : i + 6 ≤ L) : Go 750 h i := by
  obtain ⟨v, h1, h2, e1, e2, z1, k1, I2, z2, b1, b2⟩ := two_int (c_laws I) I (by decide +kernel)
  have cx := I.cox
  refine ⟨h2, ?_, I2, z2, b1, b2⟩
  simp [s178_750, s178_751, s178_754, s178_755, s178_758, s178_761, s178_762, cx, k1, e1, e2]
theorem l_hung (I : Inv h) (h0 : h.2.2 0 = some (iC L xs)) (hL : L ≤ 384) (hi : i + 6 ≤ L) : Go 763 h i := by
  obtain ⟨v, h1, h2, e1, e2, z1, k1, I2, z2, b1, b2⟩ := two_int (c_hung I) I (by decide +kernel)
  have cx := I.cox
  refine ⟨h2, ?_, I2, z2, b1, b2⟩
  simp [s178_763, s178_764, s178_767, s178_768, s178_771, s178_774, s178_775, cx, k1, e1, e2]
theorem l_freed (I : Inv h) (h0 : h.2.2 0 = some (iC L xs)) (hL : L ≤ 384) (hi : i + 6 ≤ L) : Go 776 h i := by
  obtain ⟨v, h1, h2, e1, e2, z1, k1, I2, z2, b1, b2⟩ := two_int (c_freed I) I (by decide +kernel)
  have cx := I.cox
  refine ⟨h2, ?_, I2, z2, b1, b2⟩
  simp [s178_776, s178_777, s178_780, s178_781, s178_784, s178_787, s178_788, cx, k1, e1, e2]
theorem l_odds (I : Inv h) (h0 : h.2.2 0 = some (iC L xs)) (hL : L ≤ 384) (hi : i + 6 ≤ L) : Go 789 h i := by
  obtain ⟨v, h1, h2, e1, e2, z1, k1, I2, z2, b1, b2⟩ := two_lng (c_odds I (xs (i + 1)) (xs (i + 2)) (xs (i + 3))) I (by decide +kernel)
  have cx := I.cox
  have q1 := ia_s h0 hL (i := i) (c := 1) (by omega)
  have y1 := ia_s (z1.trans h0) hL (i := i) (c := 1) (by omega)
  rw [show nI 1 = 1 from rfl] at q1 y1
  have q2 := ia_s h0 hL (i := i) (c := 2) (by omega)
  have y2 := ia_s (z1.trans h0) hL (i := i) (c := 2) (by omega)
  rw [show nI 2 = 2 from rfl] at q2 y2
  have q3 := ia_s h0 hL (i := i) (c := 3) (by omega)
  have y3 := ia_s (z1.trans h0) hL (i := i) (c := 3) (by omega)
  rw [show nI 3 = 3 from rfl] at q3 y3
  refine ⟨h2, ?_, I2, z2, b1, b2⟩
  simp [s178_789, s178_790, s178_791, s178_792, s178_793, s178_794, s178_795, s178_796, s178_797, s178_798, s178_799, s178_800, s178_801, s178_802, s178_803, s178_804, s178_805, s178_808, s178_809, s178_810, s178_811, s178_812, s178_813, s178_814, s178_815, s178_816, s178_817, s178_818, s178_819, s178_820, s178_821, s178_822, s178_823, s178_824, s178_827, s178_828, s178_831, s178_832, cx, k1, e1, e2, q1, y1, q2, y2, q3, y3, lg_same]
theorem l_sheet (I : Inv h) (h0 : h.2.2 0 = some (iC L xs)) (hL : L ≤ 384) (hi : i + 6 ≤ L) : Go 833 h i := by
  obtain ⟨v, h1, h2, e1, e2, z1, k1, I2, z2, b1, b2⟩ := two_int (c_sheet I (xs (i + 1)) (xs (i + 2)) (xs (i + 3))) I (by decide +kernel)
  have cx := I.cox
  have q1 := ia_s h0 hL (i := i) (c := 1) (by omega)
  have y1 := ia_s (z1.trans h0) hL (i := i) (c := 1) (by omega)
  rw [show nI 1 = 1 from rfl] at q1 y1
  have q2 := ia_s h0 hL (i := i) (c := 2) (by omega)
  have y2 := ia_s (z1.trans h0) hL (i := i) (c := 2) (by omega)
  rw [show nI 2 = 2 from rfl] at q2 y2
  have q3 := ia_s h0 hL (i := i) (c := 3) (by omega)
  have y3 := ia_s (z1.trans h0) hL (i := i) (c := 3) (by omega)
  rw [show nI 3 = 3 from rfl] at q3 y3
  refine ⟨h2, ?_, I2, z2, b1, b2⟩
  simp [s178_833, s178_834, s178_835, s178_836, s178_837, s178_838, s178_839, s178_840, s178_841, s178_842, s178_843, s178_844, s178_845, s178_846, s178_847, s178_848, s178_849, s178_852, s178_853, s178_854, s178_855, s178_856, s178_857, s178_858, s178_859, s178_860, s178_861, s178_862, s178_863, s178_864, s178_865, s178_866, s178_867, s178_868, s178_871, s178_874, s178_875, cx, k1, e1, e2, q1, y1, q2, y2, q3, y3]
theorem l_lose (I : Inv h) (h0 : h.2.2 0 = some (iC L xs)) (hL : L ≤ 384) (hi : i + 6 ≤ L) : Go 876 h i := by
  obtain ⟨v, h1, h2, e1, e2, z1, k1, I2, z2, b1, b2⟩ := two_int (c_lose I (xs (i + 1))) I (by decide +kernel)
  have cx := I.cox
  have q1 := ia_s h0 hL (i := i) (c := 1) (by omega)
  have y1 := ia_s (z1.trans h0) hL (i := i) (c := 1) (by omega)
  rw [show nI 1 = 1 from rfl] at q1 y1
  refine ⟨h2, ?_, I2, z2, b1, b2⟩
  simp [s178_876, s178_877, s178_878, s178_879, s178_880, s178_881, s178_882, s178_885, s178_886, s178_887, s178_888, s178_889, s178_890, s178_891, s178_894, s178_897, s178_898, cx, k1, e1, e2, q1, y1]
theorem l_put (I : Inv h) (h0 : h.2.2 0 = some (iC L xs)) (hL : L ≤ 384) (hi : i + 6 ≤ L) : Go 899 h i := by
  obtain ⟨v, h1, h2, e1, e2, z1, k1, I2, z2, b1, b2⟩ := two_int (c_put I (xs (i + 1)) (xs (i + 2)) (xs (i + 3))) I (by decide +kernel)
  have cx := I.cox
  have q1 := ia_s h0 hL (i := i) (c := 1) (by omega)
  have y1 := ia_s (z1.trans h0) hL (i := i) (c := 1) (by omega)
  rw [show nI 1 = 1 from rfl] at q1 y1
  have q2 := ia_s h0 hL (i := i) (c := 2) (by omega)
  have y2 := ia_s (z1.trans h0) hL (i := i) (c := 2) (by omega)
  rw [show nI 2 = 2 from rfl] at q2 y2
  have q3 := ia_s h0 hL (i := i) (c := 3) (by omega)
  have y3 := ia_s (z1.trans h0) hL (i := i) (c := 3) (by omega)
  rw [show nI 3 = 3 from rfl] at q3 y3
  refine ⟨h2, ?_, I2, z2, b1, b2⟩
  simp [s178_899, s178_900, s178_901, s178_902, s178_903, s178_904, s178_905, s178_906, s178_907, s178_908, s178_909, s178_910, s178_911, s178_912, s178_913, s178_914, s178_915, s178_918, s178_919, s178_920, s178_921, s178_922, s178_923, s178_924, s178_925, s178_926, s178_927, s178_928, s178_929, s178_930, s178_931, s178_932, s178_933, s178_934, s178_937, s178_940, s178_941, cx, k1, e1, e2, q1, y1, q2, y2, q3, y3]
theorem l_cell (I : Inv h) (h0 : h.2.2 0 = some (iC L xs)) (hL : L ≤ 384) (hi : i + 6 ≤ L) : Go 942 h i := by
  obtain ⟨v, h1, h2, e1, e2, z1, k1, I2, z2, b1, b2⟩ := two_lng (c_cell I (xs (i + 1)) (xs (i + 2)) (xs (i + 3))) I (by decide +kernel)
  have cx := I.cox
  have q1 := ia_s h0 hL (i := i) (c := 1) (by omega)
  have y1 := ia_s (z1.trans h0) hL (i := i) (c := 1) (by omega)
  rw [show nI 1 = 1 from rfl] at q1 y1
  have q2 := ia_s h0 hL (i := i) (c := 2) (by omega)
  have y2 := ia_s (z1.trans h0) hL (i := i) (c := 2) (by omega)
  rw [show nI 2 = 2 from rfl] at q2 y2
  have q3 := ia_s h0 hL (i := i) (c := 3) (by omega)
  have y3 := ia_s (z1.trans h0) hL (i := i) (c := 3) (by omega)
  rw [show nI 3 = 3 from rfl] at q3 y3
  refine ⟨h2, ?_, I2, z2, b1, b2⟩
  simp [s178_942, s178_943, s178_944, s178_945, s178_946, s178_947, s178_948, s178_949, s178_950, s178_951, s178_952, s178_953, s178_954, s178_955, s178_956, s178_957, s178_958, s178_961, s178_962, s178_963, s178_964, s178_965, s178_966, s178_967, s178_968, s178_969, s178_970, s178_971, s178_972, s178_973, s178_974, s178_975, s178_976, s178_977, s178_980, s178_981, s178_984, s178_985, cx, k1, e1, e2, q1, y1, q2, y2, q3, y3, lg_same]
theorem l_copy (I : Inv h) (h0 : h.2.2 0 = some (iC L xs)) (hL : L ≤ 384) (hi : i + 6 ≤ L) : Go 986 h i := by
  obtain ⟨v, h1, h2, e1, e2, z1, k1, I2, z2, b1, b2⟩ := two_int (c_copy I (xs (i + 1)) (xs (i + 2)) (xs (i + 3)) (xs (i + 4)) (xs (i + 5))) I (by decide +kernel)
  have cx := I.cox
  have q1 := ia_s h0 hL (i := i) (c := 1) (by omega)
  have y1 := ia_s (z1.trans h0) hL (i := i) (c := 1) (by omega)
  rw [show nI 1 = 1 from rfl] at q1 y1
  have q2 := ia_s h0 hL (i := i) (c := 2) (by omega)
  have y2 := ia_s (z1.trans h0) hL (i := i) (c := 2) (by omega)
  rw [show nI 2 = 2 from rfl] at q2 y2
  have q3 := ia_s h0 hL (i := i) (c := 3) (by omega)
  have y3 := ia_s (z1.trans h0) hL (i := i) (c := 3) (by omega)
  rw [show nI 3 = 3 from rfl] at q3 y3
  have q4 := ia_s h0 hL (i := i) (c := 4) (by omega)
  have y4 := ia_s (z1.trans h0) hL (i := i) (c := 4) (by omega)
  rw [show nI 4 = 4 from rfl] at q4 y4
  have q5 := ia_s h0 hL (i := i) (c := 5) (by omega)
  have y5 := ia_s (z1.trans h0) hL (i := i) (c := 5) (by omega)
  rw [show nI 5 = 5 from rfl] at q5 y5
  refine ⟨h2, ?_, I2, z2, b1, b2⟩
  simp [s178_986, s178_987, s178_988, s178_989, s178_990, s178_991, s178_992, s178_993, s178_994, s178_995, s178_996, s178_997, s178_998, s178_999, s178_1000, s178_1001, s178_1002, s178_1003, s178_1004, s178_1005, s178_1006, s178_1007, s178_1008, s178_1009, s178_1010, s178_1011, s178_1012, s178_1015, s178_1016, s178_1017, s178_1018, s178_1019, s178_1020, s178_1021, s178_1022, s178_1023, s178_1024, s178_1025, s178_1026, s178_1027, s178_1028, s178_1029, s178_1030, s178_1031, s178_1032, s178_1033, s178_1034, s178_1035, s178_1036, s178_1037, s178_1038, s178_1039, s178_1040, s178_1041, s178_1044, s178_1047, s178_1048, cx, k1, e1, e2, q1, y1, q2, y2, q3, y3, q4, y4, q5, y5]
theorem l_tell (I : Inv h) (h0 : h.2.2 0 = some (iC L xs)) (hL : L ≤ 384) (hi : i + 6 ≤ L) : Go 1049 h i := by
  obtain ⟨v, h1, h2, e1, e2, z1, k1, I2, z2, b1, b2⟩ := two_int (c_tell I (xs (i + 1))) I (by decide +kernel)
  have cx := I.cox
  have q1 := ia_s h0 hL (i := i) (c := 1) (by omega)
  have y1 := ia_s (z1.trans h0) hL (i := i) (c := 1) (by omega)
  rw [show nI 1 = 1 from rfl] at q1 y1
  refine ⟨h2, ?_, I2, z2, b1, b2⟩
  simp [s178_1049, s178_1050, s178_1051, s178_1052, s178_1053, s178_1054, s178_1055, s178_1058, s178_1059, s178_1060, s178_1061, s178_1062, s178_1063, s178_1064, s178_1067, s178_1070, s178_1071, cx, k1, e1, e2, q1, y1]
theorem l_ring (I : Inv h) (h0 : h.2.2 0 = some (iC L xs)) (hL : L ≤ 384) (hi : i + 6 ≤ L) : Go 1072 h i := by
  obtain ⟨v, h1, h2, e1, e2, z1, k1, I2, z2, b1, b2⟩ := two_int (c_ring I (xs (i + 1))) I (by decide +kernel)
  have cx := I.cox
  have q1 := ia_s h0 hL (i := i) (c := 1) (by omega)
  have y1 := ia_s (z1.trans h0) hL (i := i) (c := 1) (by omega)
  rw [show nI 1 = 1 from rfl] at q1 y1
  refine ⟨h2, ?_, I2, z2, b1, b2⟩
  simp [s178_1072, s178_1073, s178_1074, s178_1075, s178_1076, s178_1077, s178_1078, s178_1081, s178_1082, s178_1083, s178_1084, s178_1085, s178_1086, s178_1087, s178_1090, s178_1093, s178_1094, cx, k1, e1, e2, q1, y1]
theorem l_as (I : Inv h) (h0 : h.2.2 0 = some (iC L xs)) (hL : L ≤ 384) (hi : i + 6 ≤ L) : Go 1095 h i := by
  obtain ⟨v, h1, h2, e1, e2, z1, k1, I2, z2, b1, b2⟩ := two_int (c_as I (xs (i + 1)) (xs (i + 2))) I (by decide +kernel)
  have cx := I.cox
  have q1 := ia_s h0 hL (i := i) (c := 1) (by omega)
  have y1 := ia_s (z1.trans h0) hL (i := i) (c := 1) (by omega)
  rw [show nI 1 = 1 from rfl] at q1 y1
  have q2 := ia_s h0 hL (i := i) (c := 2) (by omega)
  have y2 := ia_s (z1.trans h0) hL (i := i) (c := 2) (by omega)
  rw [show nI 2 = 2 from rfl] at q2 y2
  refine ⟨h2, ?_, I2, z2, b1, b2⟩
  simp [s178_1095, s178_1096, s178_1097, s178_1098, s178_1099, s178_1100, s178_1101, s178_1102, s178_1103, s178_1104, s178_1105, s178_1106, s178_1109, s178_1110, s178_1111, s178_1112, s178_1113, s178_1114, s178_1115, s178_1116, s178_1117, s178_1118, s178_1119, s178_1120, s178_1123, s178_1126, s178_1127, cx, k1, e1, e2, q1, y1, q2, y2]
theorem l_trace (I : Inv h) (h0 : h.2.2 0 = some (iC L xs)) (hL : L ≤ 384) (hi : i + 6 ≤ L) : Go 1128 h i := by
  obtain ⟨v, h1, h2, e1, e2, z1, k1, I2, z2, b1, b2⟩ := two_int (c_trace I) I (by decide +kernel)
  have cx := I.cox
  refine ⟨h2, ?_, I2, z2, b1, b2⟩
  simp [s178_1128, s178_1129, s178_1132, s178_1133, s178_1136, s178_1139, s178_1140, cx, k1, e1, e2]
theorem l_fault (I : Inv h) (h0 : h.2.2 0 = some (iC L xs)) (hL : L ≤ 384) (hi : i + 6 ≤ L) : Go 1141 h i := by
  obtain ⟨v, h1, h2, e1, e2, z1, k1, I2, z2, b1, b2⟩ := two_int (c_fault I) I (by decide +kernel)
  have cx := I.cox
  refine ⟨h2, ?_, I2, z2, b1, b2⟩
  simp [s178_1141, s178_1142, s178_1145, s178_1146, s178_1149, s178_1152, s178_1153, cx, k1, e1, e2]
theorem l_many (I : Inv h) (h0 : h.2.2 0 = some (iC L xs)) (hL : L ≤ 384) (hi : i + 6 ≤ L) : Go 1154 h i := by
  obtain ⟨v, h1, h2, e1, e2, z1, k1, I2, z2, b1, b2⟩ := two_int (c_many I (xs (i + 1))) I (by decide +kernel)
  have cx := I.cox
  have q1 := ia_s h0 hL (i := i) (c := 1) (by omega)
  have y1 := ia_s (z1.trans h0) hL (i := i) (c := 1) (by omega)
  rw [show nI 1 = 1 from rfl] at q1 y1
  refine ⟨h2, ?_, I2, z2, b1, b2⟩
  simp [s178_1154, s178_1155, s178_1156, s178_1157, s178_1158, s178_1159, s178_1160, s178_1163, s178_1164, s178_1165, s178_1166, s178_1167, s178_1168, s178_1169, s178_1172, s178_1175, s178_1176, cx, k1, e1, e2, q1, y1]
end LAW
