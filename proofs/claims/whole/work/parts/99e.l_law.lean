/-! THE LAW: each call, and all of them -/
section
variable {u : Nat × Nat} {L : Nat} {xs : Nat → Int32} {X X' : Nat → Nat → Int32} {Z Z' : Nat → Nat → Int64} {Q : List Value → AH → Prop}
theorem ip2 {n : Nat} : ic n + 2 = ic (n + 2) := ic_add (b := 2)
theorem ip3 {n : Nat} : ic n + 3 = ic (n + 3) := ic_add (b := 3)
theorem ip4 {n : Nat} : ic n + 4 = ic (n + 4) := ic_add (b := 4)
theorem ip5 {n : Nat} : ic n + 5 = ic (n + 5) := ic_add (b := 5)
theorem ip6 {n : Nat} : ic n + 6 = ic (n + 6) := ic_add (b := 6)
/-- the words of the model stand -/
def ZW (Z : Nat → Nat → Int64) : Prop := ∀ w, w < 11 → Z 102 w = wdV w
theorem ZW_of (h : Z' 102 = Z 102) (g : ZW Z) : ZW Z' := fun w hw => by rw [h]; exact g w hw
theorem law_0 {i : Nat} {l5 l6 : Value} (hi : i + 6 < L) (hL : L < 2147483648) (hg : GI X) (hz : ZW Z) (hQ : ∀ X' Z', GI X' → ZW Z' → WP 149 0 875 [.ref 1000000, .ref 0, .ref 97, .ref 130, .int (ic i), l5, l6] [] (hX u L xs X' Z') Q) : WP 149 0 116 [.ref 1000000, .ref 0, .ref 97, .ref 130, .int (ic i), l5, l6] [] (hX u L xs X Z) Q := by
  have e1 : (i + 1 < L) = True := eq_true (by omega)
  have e2 : (i + 2 < L) = True := eq_true (by omega)
  have e3 : (i + 3 < L) = True := eq_true (by omega)
  have e4 : (i + 4 < L) = True := eq_true (by omega)
  have e5 : (i + 5 < L) = True := eq_true (by omega)
  have e6 : (i + 6 < L) = True := eq_true (by omega)
  by_cases cb : xs (i + 2) = 0
  · skip
    simp (disch := first | assumption | omega) only [w_149_116, w_149_117, w_149_118, w_149_120, w_149_121, w_149_122, w_149_123, w_149_124, w_149_126, w_149_127, w_149_128, w_149_129, w_149_132, w_149_133, w_149_136, w_149_137, ic_add1, ip2, ip3, ip4, ip5, ip6, inB_ic, ic_clamp, e1, e2, e3, e4, e5, e6, true_and, cb, if_true]
    refine WP_mono (fun rv h1 hh => ?_) (op_place (by first | exact Or.inl rfl | exact Or.inr rfl) hg)
    obtain ⟨v, Y, rfl, rfl, c2⟩ := hh
    refine ⟨by simp [thr], ?_⟩
    simp (disch := first | assumption | omega) only [app1, w_149_140, w_149_141, w_149_142, w_149_144, w_149_145, w_149_146, w_149_147, w_149_148, w_149_150, w_149_151, w_149_152, w_149_153, w_149_156, w_149_157, w_149_160, w_149_161, ic_add1, ip2, ip3, ip4, ip5, ip6, inB_ic, ic_clamp, e1, e2, e3, e4, e5, e6, true_and, cb, if_true]
    refine WP_mono (fun rv h2 hh => ?_) c2
    obtain ⟨rfl, X', Z', rfl, ez, g⟩ := hh
    refine ⟨by simp [thr], ?_⟩
    rw [app1, w_149_164, if_pos rfl]
    exact hQ X' Z' g (ZW_of ez hz)
  · skip
    simp (disch := first | assumption | omega) only [w_149_116, w_149_117, w_149_118, w_149_120, w_149_121, w_149_122, w_149_123, w_149_124, w_149_126, w_149_127, w_149_128, w_149_129, w_149_132, w_149_133, w_149_136, w_149_137, ic_add1, ip2, ip3, ip4, ip5, ip6, inB_ic, ic_clamp, e1, e2, e3, e4, e5, e6, true_and, cb, if_false]
    refine WP_mono (fun rv h1 hh => ?_) (op_place (by first | exact Or.inl rfl | exact Or.inr rfl) hg)
    obtain ⟨v, Y, rfl, rfl, c2⟩ := hh
    refine ⟨by simp [thr], ?_⟩
    simp (disch := first | assumption | omega) only [app1, w_149_140, w_149_141, w_149_142, w_149_144, w_149_145, w_149_146, w_149_147, w_149_148, w_149_150, w_149_151, w_149_152, w_149_153, w_149_156, w_149_157, w_149_160, w_149_161, ic_add1, ip2, ip3, ip4, ip5, ip6, inB_ic, ic_clamp, e1, e2, e3, e4, e5, e6, true_and, cb, if_false]
    refine WP_mono (fun rv h2 hh => ?_) c2
    obtain ⟨rfl, X', Z', rfl, ez, g⟩ := hh
    refine ⟨by simp [thr], ?_⟩
    rw [app1, w_149_164, if_pos rfl]
    exact hQ X' Z' g (ZW_of ez hz)
theorem law_1 {i : Nat} {l5 l6 : Value} (hi : i + 6 < L) (hL : L < 2147483648) (hg : GI X) (hz : ZW Z) (hQ : ∀ X' Z', GI X' → ZW Z' → WP 149 0 875 [.ref 1000000, .ref 0, .ref 97, .ref 130, .int (ic i), l5, l6] [] (hX u L xs X' Z') Q) : WP 149 0 169 [.ref 1000000, .ref 0, .ref 97, .ref 130, .int (ic i), l5, l6] [] (hX u L xs X Z) Q := by
  have e1 : (i + 1 < L) = True := eq_true (by omega)
  have e2 : (i + 2 < L) = True := eq_true (by omega)
  have e3 : (i + 3 < L) = True := eq_true (by omega)
  have e4 : (i + 4 < L) = True := eq_true (by omega)
  have e5 : (i + 5 < L) = True := eq_true (by omega)
  have e6 : (i + 6 < L) = True := eq_true (by omega)
  by_cases cb : xs (i + 1) = 0
  · skip
    simp (disch := first | assumption | omega) only [w_149_169, w_149_170, w_149_171, w_149_173, w_149_174, w_149_175, w_149_176, w_149_179, w_149_180, w_149_183, w_149_184, w_149_185, w_149_187, w_149_188, w_149_189, w_149_190, w_149_191, w_149_193, w_149_194, w_149_195, w_149_196, w_149_197, w_149_199, w_149_200, w_149_201, w_149_202, ic_add1, ip2, ip3, ip4, ip5, ip6, inB_ic, ic_clamp, e1, e2, e3, e4, e5, e6, true_and, cb, if_true]
    refine WP_mono (fun rv h1 hh => ?_) (op_run (by first | exact Or.inl rfl | exact Or.inr rfl) hg)
    obtain ⟨v, Y, rfl, rfl, c2⟩ := hh
    refine ⟨by simp [thr], ?_⟩
    simp (disch := first | assumption | omega) only [app1, w_149_205, w_149_206, w_149_207, w_149_209, w_149_210, w_149_211, w_149_212, w_149_215, w_149_216, w_149_219, w_149_220, w_149_221, w_149_223, w_149_224, w_149_225, w_149_226, w_149_227, w_149_229, w_149_230, w_149_231, w_149_232, w_149_233, w_149_235, w_149_236, w_149_237, w_149_238, ic_add1, ip2, ip3, ip4, ip5, ip6, inB_ic, ic_clamp, e1, e2, e3, e4, e5, e6, true_and, cb, if_true]
    refine WP_mono (fun rv h2 hh => ?_) c2
    obtain ⟨rfl, X', Z', rfl, ez, g⟩ := hh
    refine ⟨by simp [thr], ?_⟩
    rw [app1, w_149_241, if_pos rfl]
    exact hQ X' Z' g (ZW_of ez hz)
  · skip
    simp (disch := first | assumption | omega) only [w_149_169, w_149_170, w_149_171, w_149_173, w_149_174, w_149_175, w_149_176, w_149_179, w_149_180, w_149_183, w_149_184, w_149_185, w_149_187, w_149_188, w_149_189, w_149_190, w_149_191, w_149_193, w_149_194, w_149_195, w_149_196, w_149_197, w_149_199, w_149_200, w_149_201, w_149_202, ic_add1, ip2, ip3, ip4, ip5, ip6, inB_ic, ic_clamp, e1, e2, e3, e4, e5, e6, true_and, cb, if_false]
    refine WP_mono (fun rv h1 hh => ?_) (op_run (by first | exact Or.inl rfl | exact Or.inr rfl) hg)
    obtain ⟨v, Y, rfl, rfl, c2⟩ := hh
    refine ⟨by simp [thr], ?_⟩
    simp (disch := first | assumption | omega) only [app1, w_149_205, w_149_206, w_149_207, w_149_209, w_149_210, w_149_211, w_149_212, w_149_215, w_149_216, w_149_219, w_149_220, w_149_221, w_149_223, w_149_224, w_149_225, w_149_226, w_149_227, w_149_229, w_149_230, w_149_231, w_149_232, w_149_233, w_149_235, w_149_236, w_149_237, w_149_238, ic_add1, ip2, ip3, ip4, ip5, ip6, inB_ic, ic_clamp, e1, e2, e3, e4, e5, e6, true_and, cb, if_false]
    refine WP_mono (fun rv h2 hh => ?_) c2
    obtain ⟨rfl, X', Z', rfl, ez, g⟩ := hh
    refine ⟨by simp [thr], ?_⟩
    rw [app1, w_149_241, if_pos rfl]
    exact hQ X' Z' g (ZW_of ez hz)
theorem law_2 {i : Nat} {l5 l6 : Value} (hi : i + 6 < L) (hL : L < 2147483648) (hg : GI X) (hz : ZW Z) (hQ : ∀ X' Z', GI X' → ZW Z' → WP 149 0 875 [.ref 1000000, .ref 0, .ref 97, .ref 130, .int (ic i), l5, l6] [] (hX u L xs X' Z') Q) : WP 149 0 246 [.ref 1000000, .ref 0, .ref 97, .ref 130, .int (ic i), l5, l6] [] (hX u L xs X Z) Q := by
  have e1 : (i + 1 < L) = True := eq_true (by omega)
  have e2 : (i + 2 < L) = True := eq_true (by omega)
  have e3 : (i + 3 < L) = True := eq_true (by omega)
  have e4 : (i + 4 < L) = True := eq_true (by omega)
  have e5 : (i + 5 < L) = True := eq_true (by omega)
  have e6 : (i + 6 < L) = True := eq_true (by omega)
  simp (disch := first | assumption | omega) only [w_149_246, w_149_247, w_149_248, w_149_250, w_149_251, w_149_252, w_149_253, w_149_254, w_149_256, w_149_257, w_149_258, w_149_259, w_149_260, w_149_262, w_149_263, w_149_264, w_149_265, w_149_266, w_149_268, w_149_269, w_149_270, w_149_271, ic_add1, ip2, ip3, ip4, ip5, ip6, inB_ic, ic_clamp, e1, e2, e3, e4, e5, e6, true_and]
  refine WP_mono (fun rv h1 hh => ?_) (op_load hg)
  obtain ⟨v, Y, rfl, rfl, c2⟩ := hh
  refine ⟨by simp [thr], ?_⟩
  simp (disch := first | assumption | omega) only [app1, w_149_274, w_149_275, w_149_276, w_149_278, w_149_279, w_149_280, w_149_281, w_149_282, w_149_284, w_149_285, w_149_286, w_149_287, w_149_288, w_149_290, w_149_291, w_149_292, w_149_293, w_149_294, w_149_296, w_149_297, w_149_298, w_149_299, ic_add1, ip2, ip3, ip4, ip5, ip6, inB_ic, ic_clamp, e1, e2, e3, e4, e5, e6, true_and]
  refine WP_mono (fun rv h2 hh => ?_) c2
  obtain ⟨rfl, X', Z', rfl, ez, g⟩ := hh
  refine ⟨by simp [thr], ?_⟩
  rw [app1, w_149_302, if_pos rfl]
  exact hQ X' Z' g (ZW_of ez hz)
theorem law_3 {i : Nat} {l5 l6 : Value} (hi : i + 6 < L) (hL : L < 2147483648) (hg : GI X) (hz : ZW Z) (hQ : ∀ X' Z', GI X' → ZW Z' → WP 149 0 875 [.ref 1000000, .ref 0, .ref 97, .ref 130, .int (ic i), l5, l6] [] (hX u L xs X' Z') Q) : WP 149 0 307 [.ref 1000000, .ref 0, .ref 97, .ref 130, .int (ic i), l5, l6] [] (hX u L xs X Z) Q := by
  have e1 : (i + 1 < L) = True := eq_true (by omega)
  have e2 : (i + 2 < L) = True := eq_true (by omega)
  have e3 : (i + 3 < L) = True := eq_true (by omega)
  have e4 : (i + 4 < L) = True := eq_true (by omega)
  have e5 : (i + 5 < L) = True := eq_true (by omega)
  have e6 : (i + 6 < L) = True := eq_true (by omega)
  simp (disch := first | assumption | omega) only [w_149_307, w_149_308, w_149_309, w_149_311, w_149_312, w_149_313, w_149_314, w_149_315, w_149_317, w_149_318, w_149_319, w_149_320, w_149_321, w_149_323, w_149_324, w_149_325, w_149_326, ic_add1, ip2, ip3, ip4, ip5, ip6, inB_ic, ic_clamp, e1, e2, e3, e4, e5, e6, true_and]
  refine WP_mono (fun rv h1 hh => ?_) (op_train hg)
  obtain ⟨v, Y, rfl, rfl, c2⟩ := hh
  refine ⟨by simp [thr], ?_⟩
  simp (disch := first | assumption | omega) only [app1, w_149_329, w_149_330, w_149_331, w_149_333, w_149_334, w_149_335, w_149_336, w_149_337, w_149_339, w_149_340, w_149_341, w_149_342, w_149_343, w_149_345, w_149_346, w_149_347, w_149_348, ic_add1, ip2, ip3, ip4, ip5, ip6, inB_ic, ic_clamp, e1, e2, e3, e4, e5, e6, true_and]
  refine WP_mono (fun rv h2 hh => ?_) c2
  obtain ⟨rfl, X', Z', rfl, ez, g⟩ := hh
  refine ⟨by simp [thr], ?_⟩
  rw [app1, w_149_351, if_pos rfl]
  exact hQ X' Z' g (ZW_of ez hz)
theorem law_4 {i : Nat} {l5 l6 : Value} (hi : i + 6 < L) (hL : L < 2147483648) (hg : GI X) (hz : ZW Z) (hQ : ∀ X' Z', GI X' → ZW Z' → WP 149 0 875 [.ref 1000000, .ref 0, .ref 97, .ref 130, .int (ic i), l5, l6] [] (hX u L xs X' Z') Q) : WP 149 0 356 [.ref 1000000, .ref 0, .ref 97, .ref 130, .int (ic i), l5, l6] [] (hX u L xs X Z) Q := by
  have e1 : (i + 1 < L) = True := eq_true (by omega)
  have e2 : (i + 2 < L) = True := eq_true (by omega)
  have e3 : (i + 3 < L) = True := eq_true (by omega)
  have e4 : (i + 4 < L) = True := eq_true (by omega)
  have e5 : (i + 5 < L) = True := eq_true (by omega)
  have e6 : (i + 6 < L) = True := eq_true (by omega)
  simp (disch := first | assumption | omega) only [w_149_356, w_149_357, w_149_358, w_149_360, w_149_361, w_149_362, w_149_363, w_149_364, w_149_366, w_149_367, w_149_368, w_149_369, w_149_370, w_149_372, w_149_373, w_149_374, w_149_375, ic_add1, ip2, ip3, ip4, ip5, ip6, inB_ic, ic_clamp, e1, e2, e3, e4, e5, e6, true_and]
  refine WP_mono (fun rv h1 hh => ?_) (op_snow hg)
  obtain ⟨v, Y, rfl, rfl, c2⟩ := hh
  refine ⟨by simp [thr], ?_⟩
  simp (disch := first | assumption | omega) only [app1, w_149_378, w_149_379, w_149_380, w_149_382, w_149_383, w_149_384, w_149_385, w_149_386, w_149_388, w_149_389, w_149_390, w_149_391, w_149_392, w_149_394, w_149_395, w_149_396, w_149_397, ic_add1, ip2, ip3, ip4, ip5, ip6, inB_ic, ic_clamp, e1, e2, e3, e4, e5, e6, true_and]
  refine WP_mono (fun rv h2 hh => ?_) c2
  obtain ⟨rfl, X', Z', rfl, ez, g⟩ := hh
  refine ⟨by simp [thr], ?_⟩
  rw [app1, w_149_400, if_pos rfl]
  exact hQ X' Z' g (ZW_of ez hz)
theorem law_5 {i : Nat} {l5 l6 : Value} (hi : i + 6 < L) (hL : L < 2147483648) (hg : GI X) (hz : ZW Z) (hQ : ∀ X' Z', GI X' → ZW Z' → WP 149 0 875 [.ref 1000000, .ref 0, .ref 97, .ref 130, .int (ic i), l5, l6] [] (hX u L xs X' Z') Q) : WP 149 0 405 [.ref 1000000, .ref 0, .ref 97, .ref 130, .int (ic i), l5, l6] [] (hX u L xs X Z) Q := by
  have e1 : (i + 1 < L) = True := eq_true (by omega)
  have e2 : (i + 2 < L) = True := eq_true (by omega)
  have e3 : (i + 3 < L) = True := eq_true (by omega)
  have e4 : (i + 4 < L) = True := eq_true (by omega)
  have e5 : (i + 5 < L) = True := eq_true (by omega)
  have e6 : (i + 6 < L) = True := eq_true (by omega)
  simp (disch := first | assumption | omega) only [w_149_405, w_149_406, w_149_407, w_149_409, w_149_410, w_149_411, w_149_412, w_149_413, w_149_415, w_149_416, w_149_417, w_149_419, w_149_420, w_149_421, w_149_422, w_149_423, w_149_426, w_149_427, w_149_428, w_149_429, w_149_431, w_149_432, w_149_433, w_149_434, w_149_435, w_149_437, w_149_438, w_149_439, w_149_441, w_149_442, w_149_443, w_149_444, w_149_445, w_149_448, w_149_449, w_149_450, w_149_451, w_149_453, w_149_454, w_149_455, w_149_456, w_149_457, w_149_459, w_149_460, w_149_461, w_149_463, w_149_465, w_149_466, w_149_467, w_149_468, w_149_471, w_149_472, w_149_473, ic_add1, ip2, ip3, ip4, ip5, ip6, inB_ic, ic_clamp, e1, e2, e3, e4, e5, e6, true_and]
  refine WP_mono (fun rv h1 hh => ?_) (op_feed hg)
  obtain ⟨v, Y, rfl, rfl, c2⟩ := hh
  refine ⟨by simp [thr], ?_⟩
  simp (disch := first | assumption | omega) only [app1, w_149_476, w_149_477, w_149_478, w_149_480, w_149_481, w_149_482, w_149_483, w_149_484, w_149_486, w_149_487, w_149_488, w_149_490, w_149_491, w_149_492, w_149_493, w_149_494, w_149_497, w_149_498, w_149_499, w_149_500, w_149_502, w_149_503, w_149_504, w_149_505, w_149_506, w_149_508, w_149_509, w_149_510, w_149_512, w_149_513, w_149_514, w_149_515, w_149_516, w_149_519, w_149_520, w_149_521, w_149_522, w_149_524, w_149_525, w_149_526, w_149_527, w_149_528, w_149_530, w_149_531, w_149_532, w_149_534, w_149_536, w_149_537, w_149_538, w_149_539, w_149_542, w_149_543, w_149_544, ic_add1, ip2, ip3, ip4, ip5, ip6, inB_ic, ic_clamp, e1, e2, e3, e4, e5, e6, true_and]
  refine WP_mono (fun rv h2 hh => ?_) c2
  obtain ⟨rfl, X', Z', rfl, ez, g⟩ := hh
  refine ⟨by simp [thr], ?_⟩
  rw [app1, w_149_547, if_pos rfl]
  exact hQ X' Z' g (ZW_of ez hz)
theorem law_6 {i : Nat} {l5 l6 : Value} (hi : i + 6 < L) (hL : L < 2147483648) (hg : GI X) (hz : ZW Z) (hQ : ∀ X' Z', GI X' → ZW Z' → WP 149 0 875 [.ref 1000000, .ref 0, .ref 97, .ref 130, .int (ic i), l5, l6] [] (hX u L xs X' Z') Q) : WP 149 0 552 [.ref 1000000, .ref 0, .ref 97, .ref 130, .int (ic i), l5, l6] [] (hX u L xs X Z) Q := by
  have e1 : (i + 1 < L) = True := eq_true (by omega)
  have e2 : (i + 2 < L) = True := eq_true (by omega)
  have e3 : (i + 3 < L) = True := eq_true (by omega)
  have e4 : (i + 4 < L) = True := eq_true (by omega)
  have e5 : (i + 5 < L) = True := eq_true (by omega)
  have e6 : (i + 6 < L) = True := eq_true (by omega)
  simp (disch := first | assumption | omega) only [w_149_552, w_149_553, ic_add1, ip2, ip3, ip4, ip5, ip6, inB_ic, ic_clamp, e1, e2, e3, e4, e5, e6, true_and]
  refine WP_mono (fun rv h1 hh => ?_) (op_text hg hz)
  obtain ⟨v, Y, rfl, rfl, c2⟩ := hh
  refine ⟨by simp [thr], ?_⟩
  simp (disch := first | assumption | omega) only [app1, w_149_556, w_149_557, ic_add1, ip2, ip3, ip4, ip5, ip6, inB_ic, ic_clamp, e1, e2, e3, e4, e5, e6, true_and]
  refine WP_mono (fun rv h2 hh => ?_) c2
  obtain ⟨rfl, X', Z', rfl, ez, g⟩ := hh
  refine ⟨by simp [thr], ?_⟩
  rw [app1, w_149_560, if_pos rfl]
  exact hQ X' Z' g (ZW_of ez hz)
theorem law_7 {i : Nat} {l5 l6 : Value} (hi : i + 6 < L) (hL : L < 2147483648) (hg : GI X) (hz : ZW Z) (hQ : ∀ X' Z', GI X' → ZW Z' → WP 149 0 875 [.ref 1000000, .ref 0, .ref 97, .ref 130, .int (ic i), l5, l6] [] (hX u L xs X' Z') Q) : WP 149 0 565 [.ref 1000000, .ref 0, .ref 97, .ref 130, .int (ic i), l5, l6] [] (hX u L xs X Z) Q := by
  have e1 : (i + 1 < L) = True := eq_true (by omega)
  have e2 : (i + 2 < L) = True := eq_true (by omega)
  have e3 : (i + 3 < L) = True := eq_true (by omega)
  have e4 : (i + 4 < L) = True := eq_true (by omega)
  have e5 : (i + 5 < L) = True := eq_true (by omega)
  have e6 : (i + 6 < L) = True := eq_true (by omega)
  simp (disch := first | assumption | omega) only [w_149_565, w_149_566, w_149_567, w_149_569, w_149_570, w_149_571, w_149_572, ic_add1, ip2, ip3, ip4, ip5, ip6, inB_ic, ic_clamp, e1, e2, e3, e4, e5, e6, true_and]
  refine WP_mono (fun rv h1 hh => ?_) (op_minutes hg)
  obtain ⟨v, Y, rfl, rfl, c2⟩ := hh
  refine ⟨by simp [thr], ?_⟩
  simp (disch := first | assumption | omega) only [app1, w_149_575, w_149_576, w_149_577, w_149_579, w_149_580, w_149_581, w_149_582, ic_add1, ip2, ip3, ip4, ip5, ip6, inB_ic, ic_clamp, e1, e2, e3, e4, e5, e6, true_and]
  refine WP_mono (fun rv h2 hh => ?_) c2
  obtain ⟨rfl, X', Z', rfl, ez, g⟩ := hh
  refine ⟨by simp [thr], ?_⟩
  rw [app1, w_149_585, if_pos rfl]
  exact hQ X' Z' g (ZW_of ez hz)
theorem law_8 {i : Nat} {l5 l6 : Value} (hi : i + 6 < L) (hL : L < 2147483648) (hg : GI X) (hz : ZW Z) (hQ : ∀ X' Z', GI X' → ZW Z' → WP 149 0 875 [.ref 1000000, .ref 0, .ref 97, .ref 130, .int (ic i), l5, l6] [] (hX u L xs X' Z') Q) : WP 149 0 590 [.ref 1000000, .ref 0, .ref 97, .ref 130, .int (ic i), l5, l6] [] (hX u L xs X Z) Q := by
  have e1 : (i + 1 < L) = True := eq_true (by omega)
  have e2 : (i + 2 < L) = True := eq_true (by omega)
  have e3 : (i + 3 < L) = True := eq_true (by omega)
  have e4 : (i + 4 < L) = True := eq_true (by omega)
  have e5 : (i + 5 < L) = True := eq_true (by omega)
  have e6 : (i + 6 < L) = True := eq_true (by omega)
  simp (disch := first | assumption | omega) only [w_149_590, w_149_591, w_149_592, w_149_594, w_149_595, w_149_596, w_149_597, w_149_598, w_149_600, w_149_601, w_149_602, w_149_603, w_149_604, w_149_606, w_149_607, w_149_608, w_149_609, ic_add1, ip2, ip3, ip4, ip5, ip6, inB_ic, ic_clamp, e1, e2, e3, e4, e5, e6, true_and]
  refine WP_mono (fun rv h1 hh => ?_) (op_best hg)
  obtain ⟨v, Y, rfl, rfl, c2⟩ := hh
  refine ⟨by simp [thr], ?_⟩
  simp (disch := first | assumption | omega) only [app1, w_149_612, w_149_613, w_149_614, w_149_616, w_149_617, w_149_618, w_149_619, w_149_620, w_149_622, w_149_623, w_149_624, w_149_625, w_149_626, w_149_628, w_149_629, w_149_630, w_149_631, ic_add1, ip2, ip3, ip4, ip5, ip6, inB_ic, ic_clamp, e1, e2, e3, e4, e5, e6, true_and]
  refine WP_mono (fun rv h2 hh => ?_) c2
  obtain ⟨rfl, X', Z', rfl, ez, g⟩ := hh
  refine ⟨by simp [thr], ?_⟩
  rw [app1, w_149_634, if_pos rfl]
  exact hQ X' Z' g (ZW_of ez hz)
theorem law_9 {i : Nat} {l5 l6 : Value} (hi : i + 6 < L) (hL : L < 2147483648) (hg : GI X) (hz : ZW Z) (hQ : ∀ X' Z', GI X' → ZW Z' → WP 149 0 875 [.ref 1000000, .ref 0, .ref 97, .ref 130, .int (ic i), l5, l6] [] (hX u L xs X' Z') Q) : WP 149 0 639 [.ref 1000000, .ref 0, .ref 97, .ref 130, .int (ic i), l5, l6] [] (hX u L xs X Z) Q := by
  have e1 : (i + 1 < L) = True := eq_true (by omega)
  have e2 : (i + 2 < L) = True := eq_true (by omega)
  have e3 : (i + 3 < L) = True := eq_true (by omega)
  have e4 : (i + 4 < L) = True := eq_true (by omega)
  have e5 : (i + 5 < L) = True := eq_true (by omega)
  have e6 : (i + 6 < L) = True := eq_true (by omega)
  simp (disch := first | assumption | omega) only [w_149_639, w_149_640, ic_add1, ip2, ip3, ip4, ip5, ip6, inB_ic, ic_clamp, e1, e2, e3, e4, e5, e6, true_and]
  refine WP_mono (fun rv h1 hh => ?_) (op_takes hg)
  obtain ⟨v, Y, rfl, rfl, c2⟩ := hh
  refine ⟨by simp [thr], ?_⟩
  simp (disch := first | assumption | omega) only [app1, w_149_643, w_149_644, ic_add1, ip2, ip3, ip4, ip5, ip6, inB_ic, ic_clamp, e1, e2, e3, e4, e5, e6, true_and]
  refine WP_mono (fun rv h2 hh => ?_) c2
  obtain ⟨rfl, X', Z', rfl, ez, g⟩ := hh
  refine ⟨by simp [thr], ?_⟩
  rw [app1, w_149_647, if_pos rfl]
  exact hQ X' Z' g (ZW_of ez hz)
theorem law_10 {i : Nat} {l5 l6 : Value} (hi : i + 6 < L) (hL : L < 2147483648) (hg : GI X) (hz : ZW Z) (hQ : ∀ X' Z', GI X' → ZW Z' → WP 149 0 875 [.ref 1000000, .ref 0, .ref 97, .ref 130, .int (ic i), l5, l6] [] (hX u L xs X' Z') Q) : WP 149 0 652 [.ref 1000000, .ref 0, .ref 97, .ref 130, .int (ic i), l5, l6] [] (hX u L xs X Z) Q := by
  have e1 : (i + 1 < L) = True := eq_true (by omega)
  have e2 : (i + 2 < L) = True := eq_true (by omega)
  have e3 : (i + 3 < L) = True := eq_true (by omega)
  have e4 : (i + 4 < L) = True := eq_true (by omega)
  have e5 : (i + 5 < L) = True := eq_true (by omega)
  have e6 : (i + 6 < L) = True := eq_true (by omega)
  simp (disch := first | assumption | omega) only [w_149_652, w_149_653, w_149_654, w_149_656, w_149_657, w_149_658, w_149_659, w_149_660, w_149_662, w_149_663, w_149_664, w_149_665, ic_add1, ip2, ip3, ip4, ip5, ip6, inB_ic, ic_clamp, e1, e2, e3, e4, e5, e6, true_and]
  refine WP_mono (fun rv h1 hh => ?_) (op_shift hg)
  obtain ⟨v, Y, rfl, rfl, c2⟩ := hh
  refine ⟨by simp [thr], ?_⟩
  simp (disch := first | assumption | omega) only [app1, w_149_668, w_149_669, w_149_670, w_149_672, w_149_673, w_149_674, w_149_675, w_149_676, w_149_678, w_149_679, w_149_680, w_149_681, ic_add1, ip2, ip3, ip4, ip5, ip6, inB_ic, ic_clamp, e1, e2, e3, e4, e5, e6, true_and]
  refine WP_mono (fun rv h2 hh => ?_) c2
  obtain ⟨rfl, X', Z', rfl, ez, g⟩ := hh
  refine ⟨by simp [thr], ?_⟩
  rw [app1, w_149_684, if_pos rfl]
  exact hQ X' Z' g (ZW_of ez hz)
theorem law_13 {i : Nat} {l5 l6 : Value} (hi : i + 6 < L) (hL : L < 2147483648) (hg : GI X) (hz : ZW Z) (hQ : ∀ X' Z', GI X' → ZW Z' → WP 149 0 875 [.ref 1000000, .ref 0, .ref 97, .ref 130, .int (ic i), l5, l6] [] (hX u L xs X' Z') Q) : WP 149 0 825 [.ref 1000000, .ref 0, .ref 97, .ref 130, .int (ic i), l5, l6] [] (hX u L xs X Z) Q := by
  have e1 : (i + 1 < L) = True := eq_true (by omega)
  have e2 : (i + 2 < L) = True := eq_true (by omega)
  have e3 : (i + 3 < L) = True := eq_true (by omega)
  have e4 : (i + 4 < L) = True := eq_true (by omega)
  have e5 : (i + 5 < L) = True := eq_true (by omega)
  have e6 : (i + 6 < L) = True := eq_true (by omega)
  simp (disch := first | assumption | omega) only [w_149_825, w_149_826, w_149_827, w_149_829, w_149_830, w_149_831, w_149_832, ic_add1, ip2, ip3, ip4, ip5, ip6, inB_ic, ic_clamp, e1, e2, e3, e4, e5, e6, true_and]
  refine WP_mono (fun rv h1 hh => ?_) (op_shut hg)
  obtain ⟨v, Y, rfl, rfl, c2⟩ := hh
  refine ⟨by simp [thr], ?_⟩
  simp (disch := first | assumption | omega) only [app1, w_149_835, w_149_836, w_149_837, w_149_839, w_149_840, w_149_841, w_149_842, ic_add1, ip2, ip3, ip4, ip5, ip6, inB_ic, ic_clamp, e1, e2, e3, e4, e5, e6, true_and]
  refine WP_mono (fun rv h2 hh => ?_) c2
  obtain ⟨rfl, X', Z', rfl, ez, g⟩ := hh
  refine ⟨by simp [thr], ?_⟩
  rw [app1, w_149_845, if_pos rfl]
  exact hQ X' Z' g (ZW_of ez hz)
theorem law_14 {i : Nat} {l5 l6 : Value} (hi : i + 6 < L) (hL : L < 2147483648) (hg : GI X) (hz : ZW Z) (hQ : ∀ X' Z', GI X' → ZW Z' → WP 149 0 875 [.ref 1000000, .ref 0, .ref 97, .ref 130, .int (ic i), l5, l6] [] (hX u L xs X' Z') Q) : WP 149 0 850 [.ref 1000000, .ref 0, .ref 97, .ref 130, .int (ic i), l5, l6] [] (hX u L xs X Z) Q := by
  have e1 : (i + 1 < L) = True := eq_true (by omega)
  have e2 : (i + 2 < L) = True := eq_true (by omega)
  have e3 : (i + 3 < L) = True := eq_true (by omega)
  have e4 : (i + 4 < L) = True := eq_true (by omega)
  have e5 : (i + 5 < L) = True := eq_true (by omega)
  have e6 : (i + 6 < L) = True := eq_true (by omega)
  simp (disch := first | assumption | omega) only [w_149_850, w_149_851, w_149_852, w_149_854, w_149_855, w_149_856, w_149_857, ic_add1, ip2, ip3, ip4, ip5, ip6, inB_ic, ic_clamp, e1, e2, e3, e4, e5, e6, true_and]
  refine WP_mono (fun rv h1 hh => ?_) (op_count hg)
  obtain ⟨v, Y, rfl, rfl, c2⟩ := hh
  refine ⟨by simp [thr], ?_⟩
  simp (disch := first | assumption | omega) only [app1, w_149_860, w_149_861, w_149_862, w_149_864, w_149_865, w_149_866, w_149_867, ic_add1, ip2, ip3, ip4, ip5, ip6, inB_ic, ic_clamp, e1, e2, e3, e4, e5, e6, true_and]
  refine WP_mono (fun rv h2 hh => ?_) c2
  obtain ⟨rfl, X', Z', rfl, ez, g⟩ := hh
  refine ⟨by simp [thr], ?_⟩
  rw [app1, w_149_870, if_pos rfl]
  exact hQ X' Z' g (ZW_of ez hz)
end
