/-! the law, case by case; printed by wip/whole/gen31.py -/
theorem fLX {σ : mx_S} {L : Nat} (h : σ 2000 3 = nI L) (hL : L < 2 ^ 31) : mx_len (shF, σ) 1003 = L := by
  unfold mx_len
  rw [if_pos (by decide), if_pos (by decide)]
  show (σ 2000 3).toNatClampNeg = L
  rw [h, nI_clamp hL]
def LQ (σ : mx_S) (pc k : Nat) : Prop := ∃ τ, vv 12 176 pc [.ref 1003, .ref 0, .ref 23, .int (nI (7 * k))] [] (shF, σ) = vv 12 176 18 [.ref 1003, .ref 0, .ref 23, .int (nI (7 * (k + 1)))] [] (shF, τ) ∧ INV τ ∧ ∀ c, 1000 ≤ c → τ c = σ c
theorem q_loss {σ : mx_S} {L k : Nat} (hI : INV σ) (hL : σ 2000 3 = nI L) (hL2 : L ≤ 3584) (hk : 7 * k + 7 ≤ L) : LQ σ 120 k := by
  obtain ⟨r, σ1, σ2, e1, e2, i, f⟩ := p_loss hI (σ 1003 (7 * k + 1)) (σ 1003 (7 * k + 2)) (σ 1003 (7 * k + 3)) (σ 1003 (7 * k + 4))
  dsimp only at e1 e2
  have hh := vv_hi e1 (show shF.length < 1000 by decide)
  have h3 : σ1 1003 = σ 1003 := hh 1003 (by decide)
  have h2 : σ1 2000 3 = nI L := by rw [show σ1 2000 = σ 2000 from hh 2000 (by decide)]; exact hL
  have g0 := fLX hL (by omega)
  have g1 := fLX h2 (by omega)
  refine ⟨σ2, ?_, i, f⟩
  simp (disch := first | exact fR_0 | exact fR_1 | exact fR_7 | exact fR_11 | exact fR_19 | exact fR_20 | exact fR_23 | omega) only [e_La_law_120, e_La_law_121, e_La_law_122, e_La_law_123, e_La_law_124, e_La_law_125, e_La_law_126, e_La_law_127, e_La_law_128, e_La_law_129, e_La_law_130, e_La_law_131, e_La_law_132, e_La_law_133, e_La_law_134, e_La_law_135, e_La_law_136, e_La_law_137, e_La_law_138, e_La_law_139, e_La_law_140, e_La_law_141, e_La_law_144, e_La_law_145, e_La_law_146, e_La_law_147, e_La_law_148, e_La_law_149, e_La_law_150, e_La_law_151, e_La_law_152, e_La_law_153, e_La_law_154, e_La_law_155, e_La_law_156, e_La_law_157, e_La_law_158, e_La_law_159, e_La_law_160, e_La_law_161, e_La_law_162, e_La_law_163, e_La_law_164, e_La_law_165, e_La_law_168, e_La_law_806, e_La_law_809, vr_v, vr_n, vr_vh, vr_nh, vg_some, nI_ltI, nI_add, nI_mul, nI_clamp, mx_in_nI, g0, g1, h3, if_true, e1, e2, eq_self, show 7 * (k + 1) = 7 * k + 7 by omega]
theorem q_noise {σ : mx_S} {L k : Nat} (hI : INV σ) (hL : σ 2000 3 = nI L) (hL2 : L ≤ 3584) (hk : 7 * k + 7 ≤ L) : LQ σ 173 k := by
  obtain ⟨r, σ1, σ2, e1, e2, i, f⟩ := p_noise hI (σ 1003 (7 * k + 1)) (σ 1003 (7 * k + 2)) (σ 1003 (7 * k + 3)) (σ 1003 (7 * k + 4))
  dsimp only at e1 e2
  have hh := vv_hi e1 (show shF.length < 1000 by decide)
  have h3 : σ1 1003 = σ 1003 := hh 1003 (by decide)
  have h2 : σ1 2000 3 = nI L := by rw [show σ1 2000 = σ 2000 from hh 2000 (by decide)]; exact hL
  have g0 := fLX hL (by omega)
  have g1 := fLX h2 (by omega)
  refine ⟨σ2, ?_, i, f⟩
  simp (disch := first | exact fR_0 | exact fR_1 | exact fR_7 | exact fR_11 | exact fR_19 | exact fR_20 | exact fR_23 | omega) only [e_La_law_173, e_La_law_174, e_La_law_175, e_La_law_176, e_La_law_177, e_La_law_178, e_La_law_179, e_La_law_180, e_La_law_181, e_La_law_182, e_La_law_183, e_La_law_184, e_La_law_185, e_La_law_186, e_La_law_187, e_La_law_188, e_La_law_189, e_La_law_190, e_La_law_191, e_La_law_192, e_La_law_193, e_La_law_194, e_La_law_197, e_La_law_198, e_La_law_199, e_La_law_200, e_La_law_201, e_La_law_202, e_La_law_203, e_La_law_204, e_La_law_205, e_La_law_206, e_La_law_207, e_La_law_208, e_La_law_209, e_La_law_210, e_La_law_211, e_La_law_212, e_La_law_213, e_La_law_214, e_La_law_215, e_La_law_216, e_La_law_217, e_La_law_218, e_La_law_221, e_La_law_806, e_La_law_809, vr_v, vr_n, vr_vh, vr_nh, vg_some, nI_ltI, nI_add, nI_mul, nI_clamp, mx_in_nI, g0, g1, h3, if_true, e1, e2, eq_self, show 7 * (k + 1) = 7 * k + 7 by omega]
theorem q_margin {σ : mx_S} {L k : Nat} (hI : INV σ) (hL : σ 2000 3 = nI L) (hL2 : L ≤ 3584) (hk : 7 * k + 7 ≤ L) : LQ σ 226 k := by
  obtain ⟨r, σ1, σ2, e1, e2, i, f⟩ := p_margin hI (σ 1003 (7 * k + 1))
  dsimp only at e1 e2
  have hh := vv_hi e1 (show shF.length < 1000 by decide)
  have h3 : σ1 1003 = σ 1003 := hh 1003 (by decide)
  have h2 : σ1 2000 3 = nI L := by rw [show σ1 2000 = σ 2000 from hh 2000 (by decide)]; exact hL
  have g0 := fLX hL (by omega)
  have g1 := fLX h2 (by omega)
  refine ⟨σ2, ?_, i, f⟩
  simp (disch := first | exact fR_0 | exact fR_1 | exact fR_7 | exact fR_11 | exact fR_19 | exact fR_20 | exact fR_23 | omega) only [e_La_law_226, e_La_law_227, e_La_law_228, e_La_law_229, e_La_law_230, e_La_law_231, e_La_law_232, e_La_law_235, e_La_law_236, e_La_law_237, e_La_law_238, e_La_law_239, e_La_law_240, e_La_law_241, e_La_law_244, e_La_law_806, e_La_law_809, vr_v, vr_n, vr_vh, vr_nh, vg_some, nI_ltI, nI_add, nI_mul, nI_clamp, mx_in_nI, g0, g1, h3, if_true, e1, e2, eq_self, show 7 * (k + 1) = 7 * k + 7 by omega]
theorem q_key {σ : mx_S} {L k : Nat} (hI : INV σ) (hL : σ 2000 3 = nI L) (hL2 : L ≤ 3584) (hk : 7 * k + 7 ≤ L) : LQ σ 249 k := by
  obtain ⟨r, σ1, σ2, e1, e2, i, f⟩ := p_key hI (σ 1003 (7 * k + 1)) (σ 1003 (7 * k + 2))
  dsimp only at e1 e2
  have hh := vv_hi e1 (show shF.length < 1000 by decide)
  have h3 : σ1 1003 = σ 1003 := hh 1003 (by decide)
  have h2 : σ1 2000 3 = nI L := by rw [show σ1 2000 = σ 2000 from hh 2000 (by decide)]; exact hL
  have g0 := fLX hL (by omega)
  have g1 := fLX h2 (by omega)
  refine ⟨σ2, ?_, i, f⟩
  simp (disch := first | exact fR_0 | exact fR_1 | exact fR_7 | exact fR_11 | exact fR_19 | exact fR_20 | exact fR_23 | omega) only [e_La_law_249, e_La_law_250, e_La_law_251, e_La_law_252, e_La_law_253, e_La_law_254, e_La_law_255, e_La_law_256, e_La_law_257, e_La_law_258, e_La_law_259, e_La_law_260, e_La_law_263, e_La_law_264, e_La_law_265, e_La_law_266, e_La_law_267, e_La_law_268, e_La_law_269, e_La_law_270, e_La_law_271, e_La_law_272, e_La_law_273, e_La_law_274, e_La_law_277, e_La_law_806, e_La_law_809, vr_v, vr_n, vr_vh, vr_nh, vg_some, nI_ltI, nI_add, nI_mul, nI_clamp, mx_in_nI, g0, g1, h3, if_true, e1, e2, eq_self, show 7 * (k + 1) = 7 * k + 7 by omega]
theorem q_bits {σ : mx_S} {L k : Nat} (hI : INV σ) (hL : σ 2000 3 = nI L) (hL2 : L ≤ 3584) (hk : 7 * k + 7 ≤ L) : LQ σ 282 k := by
  obtain ⟨r, σ1, σ2, e1, e2, i, f⟩ := p_bits hI (σ 1003 (7 * k + 1)) (σ 1003 (7 * k + 2)) (σ 1003 (7 * k + 3)) (σ 1003 (7 * k + 4))
  dsimp only at e1 e2
  have hh := vv_hi e1 (show shF.length < 1000 by decide)
  have h3 : σ1 1003 = σ 1003 := hh 1003 (by decide)
  have h2 : σ1 2000 3 = nI L := by rw [show σ1 2000 = σ 2000 from hh 2000 (by decide)]; exact hL
  have g0 := fLX hL (by omega)
  have g1 := fLX h2 (by omega)
  refine ⟨σ2, ?_, i, f⟩
  simp (disch := first | exact fR_0 | exact fR_1 | exact fR_7 | exact fR_11 | exact fR_19 | exact fR_20 | exact fR_23 | omega) only [e_La_law_282, e_La_law_283, e_La_law_284, e_La_law_285, e_La_law_286, e_La_law_287, e_La_law_288, e_La_law_289, e_La_law_290, e_La_law_291, e_La_law_292, e_La_law_293, e_La_law_294, e_La_law_295, e_La_law_296, e_La_law_297, e_La_law_298, e_La_law_299, e_La_law_300, e_La_law_301, e_La_law_302, e_La_law_303, e_La_law_306, e_La_law_307, e_La_law_308, e_La_law_309, e_La_law_310, e_La_law_311, e_La_law_312, e_La_law_313, e_La_law_314, e_La_law_315, e_La_law_316, e_La_law_317, e_La_law_318, e_La_law_319, e_La_law_320, e_La_law_321, e_La_law_322, e_La_law_323, e_La_law_324, e_La_law_325, e_La_law_326, e_La_law_327, e_La_law_330, e_La_law_806, e_La_law_809, vr_v, vr_n, vr_vh, vr_nh, vg_some, nI_ltI, nI_add, nI_mul, nI_clamp, mx_in_nI, g0, g1, h3, if_true, e1, e2, eq_self, show 7 * (k + 1) = 7 * k + 7 by omega]
theorem q_speed {σ : mx_S} {L k : Nat} (hI : INV σ) (hL : σ 2000 3 = nI L) (hL2 : L ≤ 3584) (hk : 7 * k + 7 ≤ L) : LQ σ 335 k := by
  obtain ⟨r, σ1, σ2, e1, e2, i, f⟩ := p_speed hI (σ 1003 (7 * k + 1)) (σ 1003 (7 * k + 2)) (σ 1003 (7 * k + 3))
  dsimp only at e1 e2
  have hh := vv_hi e1 (show shF.length < 1000 by decide)
  have h3 : σ1 1003 = σ 1003 := hh 1003 (by decide)
  have h2 : σ1 2000 3 = nI L := by rw [show σ1 2000 = σ 2000 from hh 2000 (by decide)]; exact hL
  have g0 := fLX hL (by omega)
  have g1 := fLX h2 (by omega)
  refine ⟨σ2, ?_, i, f⟩
  simp (disch := first | exact fR_0 | exact fR_1 | exact fR_7 | exact fR_11 | exact fR_19 | exact fR_20 | exact fR_23 | omega) only [e_La_law_335, e_La_law_336, e_La_law_337, e_La_law_338, e_La_law_339, e_La_law_340, e_La_law_341, e_La_law_342, e_La_law_343, e_La_law_344, e_La_law_345, e_La_law_346, e_La_law_347, e_La_law_348, e_La_law_349, e_La_law_350, e_La_law_351, e_La_law_354, e_La_law_355, e_La_law_356, e_La_law_357, e_La_law_358, e_La_law_359, e_La_law_360, e_La_law_361, e_La_law_362, e_La_law_363, e_La_law_364, e_La_law_365, e_La_law_366, e_La_law_367, e_La_law_368, e_La_law_369, e_La_law_370, e_La_law_373, e_La_law_806, e_La_law_809, vr_v, vr_n, vr_vh, vr_nh, vg_some, nI_ltI, nI_add, nI_mul, nI_clamp, mx_in_nI, g0, g1, h3, if_true, e1, e2, eq_self, show 7 * (k + 1) = 7 * k + 7 by omega]
theorem q_who {σ : mx_S} {L k : Nat} (hI : INV σ) (hL : σ 2000 3 = nI L) (hL2 : L ≤ 3584) (hk : 7 * k + 7 ≤ L) : LQ σ 378 k := by
  obtain ⟨r, σ1, σ2, e1, e2, i, f⟩ := p_who hI (σ 1003 (7 * k + 1)) (σ 1003 (7 * k + 2))
  dsimp only at e1 e2
  have hh := vv_hi e1 (show shF.length < 1000 by decide)
  have h3 : σ1 1003 = σ 1003 := hh 1003 (by decide)
  have h2 : σ1 2000 3 = nI L := by rw [show σ1 2000 = σ 2000 from hh 2000 (by decide)]; exact hL
  have g0 := fLX hL (by omega)
  have g1 := fLX h2 (by omega)
  refine ⟨σ2, ?_, i, f⟩
  simp (disch := first | exact fR_0 | exact fR_1 | exact fR_7 | exact fR_11 | exact fR_19 | exact fR_20 | exact fR_23 | omega) only [e_La_law_378, e_La_law_379, e_La_law_380, e_La_law_381, e_La_law_382, e_La_law_383, e_La_law_384, e_La_law_385, e_La_law_386, e_La_law_387, e_La_law_388, e_La_law_389, e_La_law_392, e_La_law_393, e_La_law_394, e_La_law_395, e_La_law_396, e_La_law_397, e_La_law_398, e_La_law_399, e_La_law_400, e_La_law_401, e_La_law_402, e_La_law_403, e_La_law_406, e_La_law_806, e_La_law_809, vr_v, vr_n, vr_vh, vr_nh, vg_some, nI_ltI, nI_add, nI_mul, nI_clamp, mx_in_nI, g0, g1, h3, if_true, e1, e2, eq_self, show 7 * (k + 1) = 7 * k + 7 by omega]
theorem q_lasts {σ : mx_S} {L k : Nat} (hI : INV σ) (hL : σ 2000 3 = nI L) (hL2 : L ≤ 3584) (hk : 7 * k + 7 ≤ L) : LQ σ 411 k := by
  obtain ⟨r, σ1, σ2, e1, e2, i, f⟩ := p_lasts hI (σ 1003 (7 * k + 1)) (σ 1003 (7 * k + 2)) (σ 1003 (7 * k + 3))
  dsimp only at e1 e2
  have hh := vv_hi e1 (show shF.length < 1000 by decide)
  have h3 : σ1 1003 = σ 1003 := hh 1003 (by decide)
  have h2 : σ1 2000 3 = nI L := by rw [show σ1 2000 = σ 2000 from hh 2000 (by decide)]; exact hL
  have g0 := fLX hL (by omega)
  have g1 := fLX h2 (by omega)
  refine ⟨σ2, ?_, i, f⟩
  simp (disch := first | exact fR_0 | exact fR_1 | exact fR_7 | exact fR_11 | exact fR_19 | exact fR_20 | exact fR_23 | omega) only [e_La_law_411, e_La_law_412, e_La_law_413, e_La_law_414, e_La_law_415, e_La_law_416, e_La_law_417, e_La_law_418, e_La_law_419, e_La_law_420, e_La_law_421, e_La_law_422, e_La_law_423, e_La_law_424, e_La_law_425, e_La_law_426, e_La_law_427, e_La_law_430, e_La_law_431, e_La_law_432, e_La_law_433, e_La_law_434, e_La_law_435, e_La_law_436, e_La_law_437, e_La_law_438, e_La_law_439, e_La_law_440, e_La_law_441, e_La_law_442, e_La_law_443, e_La_law_444, e_La_law_445, e_La_law_446, e_La_law_449, e_La_law_806, e_La_law_809, vr_v, vr_n, vr_vh, vr_nh, vg_some, nI_ltI, nI_add, nI_mul, nI_clamp, mx_in_nI, g0, g1, h3, if_true, e1, e2, eq_self, show 7 * (k + 1) = 7 * k + 7 by omega]
theorem q_way {σ : mx_S} {L k : Nat} (hI : INV σ) (hL : σ 2000 3 = nI L) (hL2 : L ≤ 3584) (hk : 7 * k + 7 ≤ L) : LQ σ 454 k := by
  obtain ⟨r, σ1, σ2, e1, e2, i, f⟩ := p_way hI (σ 1003 (7 * k + 1)) (σ 1003 (7 * k + 2)) (σ 1003 (7 * k + 3)) (σ 1003 (7 * k + 4))
  dsimp only at e1 e2
  have hh := vv_hi e1 (show shF.length < 1000 by decide)
  have h3 : σ1 1003 = σ 1003 := hh 1003 (by decide)
  have h2 : σ1 2000 3 = nI L := by rw [show σ1 2000 = σ 2000 from hh 2000 (by decide)]; exact hL
  have g0 := fLX hL (by omega)
  have g1 := fLX h2 (by omega)
  refine ⟨σ2, ?_, i, f⟩
  simp (disch := first | exact fR_0 | exact fR_1 | exact fR_7 | exact fR_11 | exact fR_19 | exact fR_20 | exact fR_23 | omega) only [e_La_law_454, e_La_law_455, e_La_law_456, e_La_law_457, e_La_law_458, e_La_law_459, e_La_law_460, e_La_law_461, e_La_law_462, e_La_law_463, e_La_law_464, e_La_law_465, e_La_law_466, e_La_law_467, e_La_law_468, e_La_law_469, e_La_law_470, e_La_law_471, e_La_law_472, e_La_law_473, e_La_law_474, e_La_law_475, e_La_law_478, e_La_law_479, e_La_law_480, e_La_law_481, e_La_law_482, e_La_law_483, e_La_law_484, e_La_law_485, e_La_law_486, e_La_law_487, e_La_law_488, e_La_law_489, e_La_law_490, e_La_law_491, e_La_law_492, e_La_law_493, e_La_law_494, e_La_law_495, e_La_law_496, e_La_law_497, e_La_law_498, e_La_law_499, e_La_law_502, e_La_law_806, e_La_law_809, vr_v, vr_n, vr_vh, vr_nh, vg_some, nI_ltI, nI_add, nI_mul, nI_clamp, mx_in_nI, g0, g1, h3, if_true, e1, e2, eq_self, show 7 * (k + 1) = 7 * k + 7 by omega]
theorem q_seed {σ : mx_S} {L k : Nat} (hI : INV σ) (hL : σ 2000 3 = nI L) (hL2 : L ≤ 3584) (hk : 7 * k + 7 ≤ L) : LQ σ 507 k := by
  obtain ⟨r, σ1, σ2, e1, e2, i, f⟩ := p_seed hI (σ 1003 (7 * k + 1))
  dsimp only at e1 e2
  have hh := vv_hi e1 (show shF.length < 1000 by decide)
  have h3 : σ1 1003 = σ 1003 := hh 1003 (by decide)
  have h2 : σ1 2000 3 = nI L := by rw [show σ1 2000 = σ 2000 from hh 2000 (by decide)]; exact hL
  have g0 := fLX hL (by omega)
  have g1 := fLX h2 (by omega)
  refine ⟨σ2, ?_, i, f⟩
  simp (disch := first | exact fR_0 | exact fR_1 | exact fR_7 | exact fR_11 | exact fR_19 | exact fR_20 | exact fR_23 | omega) only [e_La_law_507, e_La_law_508, e_La_law_509, e_La_law_510, e_La_law_511, e_La_law_512, e_La_law_513, e_La_law_516, e_La_law_517, e_La_law_518, e_La_law_519, e_La_law_520, e_La_law_521, e_La_law_522, e_La_law_525, e_La_law_806, e_La_law_809, vr_v, vr_n, vr_vh, vr_nh, vg_some, nI_ltI, nI_add, nI_mul, nI_clamp, mx_in_nI, g0, g1, h3, if_true, e1, e2, eq_self, show 7 * (k + 1) = 7 * k + 7 by omega]
theorem q_write {σ : mx_S} {L k : Nat} (hI : INV σ) (hL : σ 2000 3 = nI L) (hL2 : L ≤ 3584) (hk : 7 * k + 7 ≤ L) : LQ σ 530 k := by
  obtain ⟨r, σ1, σ2, e1, e2, i, f⟩ := p_write hI (σ 1003 (7 * k + 1)) (σ 1003 (7 * k + 2)) (σ 1003 (7 * k + 3)) (σ 1003 (7 * k + 4))
  dsimp only at e1 e2
  have hh := vv_hi e1 (show shF.length < 1000 by decide)
  have h3 : σ1 1003 = σ 1003 := hh 1003 (by decide)
  have h2 : σ1 2000 3 = nI L := by rw [show σ1 2000 = σ 2000 from hh 2000 (by decide)]; exact hL
  have g0 := fLX hL (by omega)
  have g1 := fLX h2 (by omega)
  refine ⟨σ2, ?_, i, f⟩
  simp (disch := first | exact fR_0 | exact fR_1 | exact fR_7 | exact fR_11 | exact fR_19 | exact fR_20 | exact fR_23 | omega) only [e_La_law_530, e_La_law_531, e_La_law_532, e_La_law_533, e_La_law_534, e_La_law_535, e_La_law_536, e_La_law_537, e_La_law_538, e_La_law_539, e_La_law_540, e_La_law_541, e_La_law_542, e_La_law_543, e_La_law_544, e_La_law_545, e_La_law_546, e_La_law_547, e_La_law_548, e_La_law_549, e_La_law_550, e_La_law_551, e_La_law_554, e_La_law_555, e_La_law_556, e_La_law_557, e_La_law_558, e_La_law_559, e_La_law_560, e_La_law_561, e_La_law_562, e_La_law_563, e_La_law_564, e_La_law_565, e_La_law_566, e_La_law_567, e_La_law_568, e_La_law_569, e_La_law_570, e_La_law_571, e_La_law_572, e_La_law_573, e_La_law_574, e_La_law_575, e_La_law_578, e_La_law_806, e_La_law_809, vr_v, vr_n, vr_vh, vr_nh, vg_some, nI_ltI, nI_add, nI_mul, nI_clamp, mx_in_nI, g0, g1, h3, if_true, e1, e2, eq_self, show 7 * (k + 1) = 7 * k + 7 by omega]
theorem q_unwrite {σ : mx_S} {L k : Nat} (hI : INV σ) (hL : σ 2000 3 = nI L) (hL2 : L ≤ 3584) (hk : 7 * k + 7 ≤ L) : LQ σ 583 k := by
  obtain ⟨r, σ1, σ2, e1, e2, i, f⟩ := p_unwrite hI (σ 1003 (7 * k + 1))
  dsimp only at e1 e2
  have hh := vv_hi e1 (show shF.length < 1000 by decide)
  have h3 : σ1 1003 = σ 1003 := hh 1003 (by decide)
  have h2 : σ1 2000 3 = nI L := by rw [show σ1 2000 = σ 2000 from hh 2000 (by decide)]; exact hL
  have g0 := fLX hL (by omega)
  have g1 := fLX h2 (by omega)
  refine ⟨σ2, ?_, i, f⟩
  simp (disch := first | exact fR_0 | exact fR_1 | exact fR_7 | exact fR_11 | exact fR_19 | exact fR_20 | exact fR_23 | omega) only [e_La_law_583, e_La_law_584, e_La_law_585, e_La_law_586, e_La_law_587, e_La_law_588, e_La_law_589, e_La_law_592, e_La_law_593, e_La_law_594, e_La_law_595, e_La_law_596, e_La_law_597, e_La_law_598, e_La_law_601, e_La_law_806, e_La_law_809, vr_v, vr_n, vr_vh, vr_nh, vg_some, nI_ltI, nI_add, nI_mul, nI_clamp, mx_in_nI, g0, g1, h3, if_true, e1, e2, eq_self, show 7 * (k + 1) = 7 * k + 7 by omega]
theorem q_pass {σ : mx_S} {L k : Nat} (hI : INV σ) (hL : σ 2000 3 = nI L) (hL2 : L ≤ 3584) (hk : 7 * k + 7 ≤ L) : LQ σ 606 k := by
  obtain ⟨r, σ1, σ2, e1, e2, i, f⟩ := p_pass hI (σ 1003 (7 * k + 1))
  dsimp only at e1 e2
  have hh := vv_hi e1 (show shF.length < 1000 by decide)
  have h3 : σ1 1003 = σ 1003 := hh 1003 (by decide)
  have h2 : σ1 2000 3 = nI L := by rw [show σ1 2000 = σ 2000 from hh 2000 (by decide)]; exact hL
  have g0 := fLX hL (by omega)
  have g1 := fLX h2 (by omega)
  refine ⟨σ2, ?_, i, f⟩
  simp (disch := first | exact fR_0 | exact fR_1 | exact fR_7 | exact fR_11 | exact fR_19 | exact fR_20 | exact fR_23 | omega) only [e_La_law_606, e_La_law_607, e_La_law_608, e_La_law_609, e_La_law_610, e_La_law_611, e_La_law_612, e_La_law_615, e_La_law_616, e_La_law_617, e_La_law_618, e_La_law_619, e_La_law_620, e_La_law_621, e_La_law_624, e_La_law_806, e_La_law_809, vr_v, vr_n, vr_vh, vr_nh, vg_some, nI_ltI, nI_add, nI_mul, nI_clamp, mx_in_nI, g0, g1, h3, if_true, e1, e2, eq_self, show 7 * (k + 1) = 7 * k + 7 by omega]
theorem q_ofStation {σ : mx_S} {L k : Nat} (hI : INV σ) (hL : σ 2000 3 = nI L) (hL2 : L ≤ 3584) (hk : 7 * k + 7 ≤ L) : LQ σ 629 k := by
  obtain ⟨r, σ1, σ2, e1, e2, i, f⟩ := p_ofStation hI (σ 1003 (7 * k + 1)) (σ 1003 (7 * k + 2))
  dsimp only at e1 e2
  have hh := vv_hi e1 (show shF.length < 1000 by decide)
  have h3 : σ1 1003 = σ 1003 := hh 1003 (by decide)
  have h2 : σ1 2000 3 = nI L := by rw [show σ1 2000 = σ 2000 from hh 2000 (by decide)]; exact hL
  have g0 := fLX hL (by omega)
  have g1 := fLX h2 (by omega)
  refine ⟨σ2, ?_, i, f⟩
  simp (disch := first | exact fR_0 | exact fR_1 | exact fR_7 | exact fR_11 | exact fR_19 | exact fR_20 | exact fR_23 | omega) only [e_La_law_629, e_La_law_630, e_La_law_631, e_La_law_632, e_La_law_633, e_La_law_634, e_La_law_635, e_La_law_636, e_La_law_637, e_La_law_638, e_La_law_639, e_La_law_640, e_La_law_643, e_La_law_644, e_La_law_645, e_La_law_646, e_La_law_647, e_La_law_648, e_La_law_649, e_La_law_650, e_La_law_651, e_La_law_652, e_La_law_653, e_La_law_654, e_La_law_657, e_La_law_806, e_La_law_809, vr_v, vr_n, vr_vh, vr_nh, vg_some, nI_ltI, nI_add, nI_mul, nI_clamp, mx_in_nI, g0, g1, h3, if_true, e1, e2, eq_self, show 7 * (k + 1) = 7 * k + 7 by omega]
theorem q_flow {σ : mx_S} {L k : Nat} (hI : INV σ) (hL : σ 2000 3 = nI L) (hL2 : L ≤ 3584) (hk : 7 * k + 7 ≤ L) : LQ σ 662 k := by
  obtain ⟨r, σ1, σ2, e1, e2, i, f⟩ := p_flow hI (σ 1003 (7 * k + 1)) (σ 1003 (7 * k + 2)) (σ 1003 (7 * k + 3)) (σ 1003 (7 * k + 4)) (σ 1003 (7 * k + 5)) (σ 1003 (7 * k + 6))
  dsimp only at e1 e2
  have hh := vv_hi e1 (show shF.length < 1000 by decide)
  have h3 : σ1 1003 = σ 1003 := hh 1003 (by decide)
  have h2 : σ1 2000 3 = nI L := by rw [show σ1 2000 = σ 2000 from hh 2000 (by decide)]; exact hL
  have g0 := fLX hL (by omega)
  have g1 := fLX h2 (by omega)
  refine ⟨σ2, ?_, i, f⟩
  simp (disch := first | exact fR_0 | exact fR_1 | exact fR_7 | exact fR_11 | exact fR_19 | exact fR_20 | exact fR_23 | omega) only [e_La_law_662, e_La_law_663, e_La_law_664, e_La_law_665, e_La_law_666, e_La_law_667, e_La_law_668, e_La_law_669, e_La_law_670, e_La_law_671, e_La_law_672, e_La_law_673, e_La_law_674, e_La_law_675, e_La_law_676, e_La_law_677, e_La_law_678, e_La_law_679, e_La_law_680, e_La_law_681, e_La_law_682, e_La_law_683, e_La_law_684, e_La_law_685, e_La_law_686, e_La_law_687, e_La_law_688, e_La_law_689, e_La_law_690, e_La_law_692, e_La_law_693, e_La_law_694, e_La_law_697, e_La_law_698, e_La_law_699, e_La_law_700, e_La_law_701, e_La_law_702, e_La_law_703, e_La_law_704, e_La_law_705, e_La_law_706, e_La_law_707, e_La_law_708, e_La_law_709, e_La_law_710, e_La_law_711, e_La_law_712, e_La_law_713, e_La_law_714, e_La_law_715, e_La_law_716, e_La_law_717, e_La_law_718, e_La_law_719, e_La_law_720, e_La_law_721, e_La_law_722, e_La_law_723, e_La_law_724, e_La_law_725, e_La_law_727, e_La_law_728, e_La_law_729, e_La_law_732, e_La_law_806, e_La_law_809, vr_v, vr_n, vr_vh, vr_nh, vg_some, nI_ltI, nI_add, nI_mul, nI_clamp, mx_in_nI, g0, g1, h3, if_true, e1, e2, eq_self, show 7 * (k + 1) = 7 * k + 7 by omega]
theorem q_disturbs {σ : mx_S} {L k : Nat} (hI : INV σ) (hL : σ 2000 3 = nI L) (hL2 : L ≤ 3584) (hk : 7 * k + 7 ≤ L) : LQ σ 737 k := by
  obtain ⟨r, σ1, σ2, e1, e2, i, f⟩ := p_disturbs hI (σ 1003 (7 * k + 1))
  dsimp only at e1 e2
  have hh := vv_hi e1 (show shF.length < 1000 by decide)
  have h3 : σ1 1003 = σ 1003 := hh 1003 (by decide)
  have h2 : σ1 2000 3 = nI L := by rw [show σ1 2000 = σ 2000 from hh 2000 (by decide)]; exact hL
  have g0 := fLX hL (by omega)
  have g1 := fLX h2 (by omega)
  refine ⟨σ2, ?_, i, f⟩
  simp (disch := first | exact fR_0 | exact fR_1 | exact fR_7 | exact fR_11 | exact fR_19 | exact fR_20 | exact fR_23 | omega) only [e_La_law_737, e_La_law_738, e_La_law_739, e_La_law_740, e_La_law_741, e_La_law_742, e_La_law_743, e_La_law_746, e_La_law_747, e_La_law_748, e_La_law_749, e_La_law_750, e_La_law_751, e_La_law_752, e_La_law_755, e_La_law_806, e_La_law_809, vr_v, vr_n, vr_vh, vr_nh, vg_some, nI_ltI, nI_add, nI_mul, nI_clamp, mx_in_nI, g0, g1, h3, if_true, e1, e2, eq_self, show 7 * (k + 1) = 7 * k + 7 by omega]
theorem q_turn {σ : mx_S} {L k : Nat} (hI : INV σ) (hL : σ 2000 3 = nI L) (hL2 : L ≤ 3584) (hk : 7 * k + 7 ≤ L) : LQ σ 760 k := by
  obtain ⟨r, σ1, σ2, e1, e2, i, f⟩ := p_turn hI (σ 1003 (7 * k + 1))
  dsimp only at e1 e2
  have hh := vv_hi e1 (show shF.length < 1000 by decide)
  have h3 : σ1 1003 = σ 1003 := hh 1003 (by decide)
  have h2 : σ1 2000 3 = nI L := by rw [show σ1 2000 = σ 2000 from hh 2000 (by decide)]; exact hL
  have g0 := fLX hL (by omega)
  have g1 := fLX h2 (by omega)
  refine ⟨σ2, ?_, i, f⟩
  simp (disch := first | exact fR_0 | exact fR_1 | exact fR_7 | exact fR_11 | exact fR_19 | exact fR_20 | exact fR_23 | omega) only [e_La_law_760, e_La_law_761, e_La_law_762, e_La_law_763, e_La_law_764, e_La_law_765, e_La_law_766, e_La_law_769, e_La_law_770, e_La_law_771, e_La_law_772, e_La_law_773, e_La_law_774, e_La_law_775, e_La_law_778, e_La_law_806, e_La_law_809, vr_v, vr_n, vr_vh, vr_nh, vg_some, nI_ltI, nI_add, nI_mul, nI_clamp, mx_in_nI, g0, g1, h3, if_true, e1, e2, eq_self, show 7 * (k + 1) = 7 * k + 7 by omega]
theorem q_many {σ : mx_S} {L k : Nat} (hI : INV σ) (hL : σ 2000 3 = nI L) (hL2 : L ≤ 3584) (hk : 7 * k + 7 ≤ L) : LQ σ 783 k := by
  obtain ⟨r, σ1, σ2, e1, e2, i, f⟩ := p_many hI (σ 1003 (7 * k + 1))
  dsimp only at e1 e2
  have hh := vv_hi e1 (show shF.length < 1000 by decide)
  have h3 : σ1 1003 = σ 1003 := hh 1003 (by decide)
  have h2 : σ1 2000 3 = nI L := by rw [show σ1 2000 = σ 2000 from hh 2000 (by decide)]; exact hL
  have g0 := fLX hL (by omega)
  have g1 := fLX h2 (by omega)
  refine ⟨σ2, ?_, i, f⟩
  simp (disch := first | exact fR_0 | exact fR_1 | exact fR_7 | exact fR_11 | exact fR_19 | exact fR_20 | exact fR_23 | omega) only [e_La_law_783, e_La_law_784, e_La_law_785, e_La_law_786, e_La_law_787, e_La_law_788, e_La_law_789, e_La_law_792, e_La_law_793, e_La_law_794, e_La_law_795, e_La_law_796, e_La_law_797, e_La_law_798, e_La_law_801, e_La_law_806, e_La_law_809, vr_v, vr_n, vr_vh, vr_nh, vg_some, nI_ltI, nI_add, nI_mul, nI_clamp, mx_in_nI, g0, g1, h3, if_true, e1, e2, eq_self, show 7 * (k + 1) = 7 * k + 7 by omega]
