/-! THE MODEL'S WORLD: is the way free -/
section
variable {u : Nat × Nat} {L : Nat} {xs : Nat → Int32} {X : Nat → Nat → Int32} {Z : Nat → Nat → Int64} {K : List Value → AH → Prop} {V : Nat → Nat → Int32}
theorem l_mlow {r sn : Nat} {l2 l3 l4 l6 l7 l8 l9 l10 : Value} (hx : RdOK X) (hrr : RR X) : ∀ n, n < npN X → (WP 137 0 50 [.ref 97, .int (ic r), l2, l3, l4, .int (ic n), l6, l7, l8, l9, l10] [] (hX u L xs X Z) K ↔ WP 137 0 65 [.ref 97, .int (ic r), l2, l3, l4, .int (ic (dnF (fun j => pasB X (ic j)) n)), l6, l7, l8, l9, l10] [] (hX u L xs X Z) K) := by
  intro n
  induction n with
  | zero =>
    intro h
    rw [w_137_50]
    simp (disch := first | assumption | omega) only [en_137, w_137_0, w_137_1, w_137_4, w_137_6, w_137_7, w_137_8, w_137_9, w_137_10, w_137_11, w_137_14, w_137_15, w_137_16, w_137_19, w_137_20, w_137_23, w_137_24, w_137_25, w_137_26, w_137_27, w_137_28, w_137_31, w_137_32, w_137_33, w_137_36, w_137_37, w_137_38, w_137_39, w_137_42, w_137_43, w_137_44, w_137_45, w_137_47, w_137_48, w_137_51, w_137_53, w_137_56, w_137_59, w_137_62, w_137_66, w_137_67, w_137_68, w_137_70, w_137_71, w_137_73, w_137_76, w_137_79, w_137_82, w_137_85, w_137_86, w_137_88, w_137_89, w_137_91, w_137_93, w_137_94, w_137_97, w_137_100, w_137_102, w_137_103, w_137_106, w_137_109, w_137_110, w_137_113, w_137_115, w_137_117, w_137_118, w_137_119, w_137_121, w_137_122, w_137_125, w_137_126, w_137_128, w_137_129, w_137_130, w_137_131, w_137_134, w_137_135, w_137_138, w_137_140, w_137_141, w_137_144, w_137_146, w_137_149, w_137_151, w_137_152, w_137_153, w_137_155, w_137_157, w_137_160, w_137_162, w_137_163, w_137_166, w_137_167, w_137_170, w_137_172, w_137_173, w_137_174, w_137_177, w_137_178, w_137_179, w_137_182, w_137_184, w_137_186, w_137_189, w_137_191, w_137_193, w_137_196, w_137_197, w_137_200, w_137_201, w_137_203, w_137_206, w_137_207, w_137_210, w_137_211, w_137_213, w_137_214, w_137_215, w_137_216, w_137_219, w_137_220, w_137_222, w_137_225, w_137_228, w_137_230, w_137_233, w_137_235, w_137_237, w_137_240, w_137_241, w_137_244, w_137_246, w_137_247, w_137_248, w_137_251, w_137_252, w_137_253, w_137_256, w_137_258, w_137_260, w_137_263, w_137_265, w_137_267, w_137_270, w_137_271, w_137_274, w_137_275, w_137_277, w_137_280, w_137_283, w_137_285, m_passes hrr hx h, ne_thr, app1, true_and, b2i_z, dnF]
    have e : pasB X (ic 0) = true := by unfold pasB; simp only [decide_eq_true_eq]; exact Or.inl (Int32.le_refl _)
    rw [e]
    simp
  | succ n ih =>
    intro h
    rw [w_137_50]
    simp (disch := first | assumption | omega) only [en_137, w_137_0, w_137_1, w_137_4, w_137_6, w_137_7, w_137_8, w_137_9, w_137_10, w_137_11, w_137_14, w_137_15, w_137_16, w_137_19, w_137_20, w_137_23, w_137_24, w_137_25, w_137_26, w_137_27, w_137_28, w_137_31, w_137_32, w_137_33, w_137_36, w_137_37, w_137_38, w_137_39, w_137_42, w_137_43, w_137_44, w_137_45, w_137_47, w_137_48, w_137_51, w_137_53, w_137_56, w_137_59, w_137_62, w_137_66, w_137_67, w_137_68, w_137_70, w_137_71, w_137_73, w_137_76, w_137_79, w_137_82, w_137_85, w_137_86, w_137_88, w_137_89, w_137_91, w_137_93, w_137_94, w_137_97, w_137_100, w_137_102, w_137_103, w_137_106, w_137_109, w_137_110, w_137_113, w_137_115, w_137_117, w_137_118, w_137_119, w_137_121, w_137_122, w_137_125, w_137_126, w_137_128, w_137_129, w_137_130, w_137_131, w_137_134, w_137_135, w_137_138, w_137_140, w_137_141, w_137_144, w_137_146, w_137_149, w_137_151, w_137_152, w_137_153, w_137_155, w_137_157, w_137_160, w_137_162, w_137_163, w_137_166, w_137_167, w_137_170, w_137_172, w_137_173, w_137_174, w_137_177, w_137_178, w_137_179, w_137_182, w_137_184, w_137_186, w_137_189, w_137_191, w_137_193, w_137_196, w_137_197, w_137_200, w_137_201, w_137_203, w_137_206, w_137_207, w_137_210, w_137_211, w_137_213, w_137_214, w_137_215, w_137_216, w_137_219, w_137_220, w_137_222, w_137_225, w_137_228, w_137_230, w_137_233, w_137_235, w_137_237, w_137_240, w_137_241, w_137_244, w_137_246, w_137_247, w_137_248, w_137_251, w_137_252, w_137_253, w_137_256, w_137_258, w_137_260, w_137_263, w_137_265, w_137_267, w_137_270, w_137_271, w_137_274, w_137_275, w_137_277, w_137_280, w_137_283, w_137_285, m_passes hrr hx h, ne_thr, app1, true_and, b2i_z, dnF, ic_subn, ih (by omega)]
    by_cases q : pasB X (ic (n + 1)) = true <;> simp [q]
theorem l_mhigh {r : Nat} {l2 l3 l4 l5 l7 l8 l9 l10 : Value} (hx : RdOK X) (hrr : RR X) : ∀ d k, k + d = npN X → 0 < d → (WP 137 0 70 [.ref 97, .int (ic r), l2, l3, l4, l5, .int (ic k), l7, l8, l9, l10] [] (hX u L xs X Z) K ↔ WP 137 0 85 [.ref 97, .int (ic r), l2, l3, l4, l5, .int (ic (upF (fun j => pasB X (ic j)) d k)), l7, l8, l9, l10] [] (hX u L xs X Z) K) := by
  intro d
  induction d with
  | zero => intro k hk h; omega
  | succ d ih =>
    intro k hk _
    have hk' : k < npN X := by omega
    rw [w_137_70]
    simp (disch := first | assumption | omega) only [en_137, w_137_0, w_137_1, w_137_4, w_137_6, w_137_7, w_137_8, w_137_9, w_137_10, w_137_11, w_137_14, w_137_15, w_137_16, w_137_19, w_137_20, w_137_23, w_137_24, w_137_25, w_137_26, w_137_27, w_137_28, w_137_31, w_137_32, w_137_33, w_137_36, w_137_37, w_137_38, w_137_39, w_137_42, w_137_43, w_137_44, w_137_45, w_137_47, w_137_48, w_137_50, w_137_51, w_137_53, w_137_56, w_137_59, w_137_62, w_137_65, w_137_66, w_137_67, w_137_68, w_137_71, w_137_73, w_137_76, w_137_79, w_137_82, w_137_86, w_137_88, w_137_89, w_137_91, w_137_93, w_137_94, w_137_97, w_137_100, w_137_102, w_137_103, w_137_106, w_137_109, w_137_110, w_137_113, w_137_115, w_137_117, w_137_118, w_137_119, w_137_121, w_137_122, w_137_125, w_137_126, w_137_128, w_137_129, w_137_130, w_137_131, w_137_134, w_137_135, w_137_138, w_137_140, w_137_141, w_137_144, w_137_146, w_137_149, w_137_151, w_137_152, w_137_153, w_137_155, w_137_157, w_137_160, w_137_162, w_137_163, w_137_166, w_137_167, w_137_170, w_137_172, w_137_173, w_137_174, w_137_177, w_137_178, w_137_179, w_137_182, w_137_184, w_137_186, w_137_189, w_137_191, w_137_193, w_137_196, w_137_197, w_137_200, w_137_201, w_137_203, w_137_206, w_137_207, w_137_210, w_137_211, w_137_213, w_137_214, w_137_215, w_137_216, w_137_219, w_137_220, w_137_222, w_137_225, w_137_228, w_137_230, w_137_233, w_137_235, w_137_237, w_137_240, w_137_241, w_137_244, w_137_246, w_137_247, w_137_248, w_137_251, w_137_252, w_137_253, w_137_256, w_137_258, w_137_260, w_137_263, w_137_265, w_137_267, w_137_270, w_137_271, w_137_274, w_137_275, w_137_277, w_137_280, w_137_283, w_137_285, m_passes hrr hx hk', ne_thr, app1, true_and, b2i_z, upF, ic_add1]
    by_cases q : pasB X (ic k) = true
    · simp [q]
    · have hd : 0 < d := by
        rcases Nat.eq_zero_or_pos d with z | z
        · exfalso
          apply q
          unfold pasB
          simp only [decide_eq_true_eq]
          refine Or.inr (Or.inl ?_)
          have h10 := hx.2.2.1
          rw [hx.1, ic_pred (by omega), ic_le (by omega) (by omega)]
          omega
        · exact z
      simp only [q, Bool.not_eq_true, not_true_eq_false, if_false, ih (k + 1) (by omega) hd, show pasB X (ic k) = false by simpa using q]
      simp
theorem dn_le {P : Nat → Bool} : ∀ n, dnF P n ≤ n ∧ ∀ j, dnF P n < j → j ≤ n → P j = false := by
  intro n
  induction n with
  | zero => exact ⟨Nat.le_refl _, fun j h1 h2 => absurd h1 (by unfold dnF; omega)⟩
  | succ n ih =>
    unfold dnF
    by_cases q : P (n + 1) = true
    · rw [if_pos q]
      exact ⟨Nat.le_refl _, fun j h1 h2 => by omega⟩
    · rw [if_neg q]
      refine ⟨by omega, fun j h1 h2 => ?_⟩
      by_cases e : j = n + 1
      · subst e; simpa using q
      · exact ih.2 j h1 (by omega)
theorem up_ge {P : Nat → Bool} : ∀ d k, k ≤ upF P d k ∧ upF P d k ≤ k + d ∧ ∀ j, k ≤ j → j < upF P d k → P j = false := by
  intro d
  induction d with
  | zero => intro k; exact ⟨Nat.le_refl _, Nat.le_refl _, fun j h1 h2 => absurd h2 (by unfold upF; omega)⟩
  | succ d ih =>
    intro k
    unfold upF
    by_cases q : P k = true
    · rw [if_pos q]
      exact ⟨Nat.le_refl _, by omega, fun j h1 h2 => by omega⟩
    · rw [if_neg q]
      obtain ⟨a, b, c⟩ := ih (k + 1)
      refine ⟨by omega, by omega, fun j h1 h2 => ?_⟩
      by_cases e : j = k
      · subst e; simpa using q
      · exact c j (by omega) h2
def mbB (X V : Nat → Nat → Int32) (r : Nat) (s lo hi ah : Int32) (k : Nat) : Bool := decide (¬ k = r ∧ ((V 6 k = 2 ∧ (strF V k = s ∨ ¬ V 2 k = V 2 r ∧ ¬ strF V k < lo ∧ strF V k < hi)) ∨ (V 6 k = 1 ∧ pasB X (V 7 k) = false ∧ (V 7 k = ah ∨ ¬ V 2 k = V 2 r ∧ lo < V 7 k ∧ V 7 k < hi))))
theorem s_mfree2 {r k : Nat} {p s ah lo hi : Int32} {acc : Bool} {l10 : Value} (hm : MR X V) (hr : r < 12) (hk : k < 12) : WP 137 0 134 [.ref 97, .int (ic r), .int p, .int s, .int ah, .int lo, .int hi, .int (b2i acc), .int (ic k), .int (V 7 k), l10] [] (hX u L xs X Z) K ↔ WP 137 0 277 [.ref 97, .int (ic r), .int p, .int s, .int ah, .int lo, .int hi, .int (b2i (acc && !decide (strF V k = s ∨ ¬ V 2 k = V 2 r ∧ ¬ strF V k < lo ∧ strF V k < hi))), .int (ic k), .int (V 7 k), .int (strF V k)] [] (hX u L xs X Z) K := by
  have er : (r < 12) = True := eq_true hr
  have ek : (k < 12) = True := eq_true hk
  have h : WP 137 0 134 [.ref 97, .int (ic r), .int p, .int s, .int ah, .int lo, .int hi, .int (b2i acc), .int (ic k), .int (V 7 k), l10] [] (hX u L xs X Z) K ↔ WP 137 0 155 [.ref 97, .int (ic r), .int p, .int s, .int ah, .int lo, .int hi, .int (b2i acc), .int (ic k), .int (V 7 k), .int (strF V k)] [] (hX u L xs X Z) K := by
    simp (disch := first | assumption | omega) only [en_137, w_137_0, w_137_1, w_137_4, w_137_6, w_137_7, w_137_8, w_137_9, w_137_10, w_137_11, w_137_14, w_137_15, w_137_16, w_137_19, w_137_20, w_137_23, w_137_24, w_137_25, w_137_26, w_137_27, w_137_28, w_137_31, w_137_32, w_137_33, w_137_36, w_137_37, w_137_38, w_137_39, w_137_42, w_137_43, w_137_44, w_137_45, w_137_47, w_137_48, w_137_50, w_137_51, w_137_53, w_137_56, w_137_59, w_137_62, w_137_65, w_137_66, w_137_67, w_137_68, w_137_70, w_137_71, w_137_73, w_137_76, w_137_79, w_137_82, w_137_85, w_137_86, w_137_88, w_137_89, w_137_91, w_137_93, w_137_94, w_137_97, w_137_100, w_137_102, w_137_103, w_137_106, w_137_109, w_137_110, w_137_113, w_137_115, w_137_117, w_137_118, w_137_119, w_137_121, w_137_122, w_137_125, w_137_126, w_137_128, w_137_129, w_137_130, w_137_131, w_137_134, w_137_135, w_137_138, w_137_140, w_137_141, w_137_144, w_137_146, w_137_149, w_137_151, w_137_152, w_137_153, w_137_157, w_137_160, w_137_162, w_137_163, w_137_166, w_137_167, w_137_170, w_137_172, w_137_173, w_137_174, w_137_177, w_137_178, w_137_179, w_137_182, w_137_184, w_137_186, w_137_189, w_137_191, w_137_193, w_137_196, w_137_197, w_137_200, w_137_201, w_137_203, w_137_206, w_137_207, w_137_210, w_137_211, w_137_213, w_137_214, w_137_215, w_137_216, w_137_219, w_137_220, w_137_222, w_137_225, w_137_228, w_137_230, w_137_233, w_137_235, w_137_237, w_137_240, w_137_241, w_137_244, w_137_246, w_137_247, w_137_248, w_137_251, w_137_252, w_137_253, w_137_256, w_137_258, w_137_260, w_137_263, w_137_265, w_137_267, w_137_270, w_137_271, w_137_274, w_137_275, w_137_280, w_137_283, w_137_285, a0, a12, a24, a36, a48, a60, a72, a152, a232, a312, ic_clamp, inB_ic, ek, true_and, m2 hm, strF]
    by_cases b : V 2 k = 0 <;> simp [b]
  rw [h]
  cases acc with
  | false =>
    simp (disch := first | assumption | omega) only [en_137, w_137_0, w_137_1, w_137_4, w_137_6, w_137_7, w_137_8, w_137_9, w_137_10, w_137_11, w_137_14, w_137_15, w_137_16, w_137_19, w_137_20, w_137_23, w_137_24, w_137_25, w_137_26, w_137_27, w_137_28, w_137_31, w_137_32, w_137_33, w_137_36, w_137_37, w_137_38, w_137_39, w_137_42, w_137_43, w_137_44, w_137_45, w_137_47, w_137_48, w_137_50, w_137_51, w_137_53, w_137_56, w_137_59, w_137_62, w_137_65, w_137_66, w_137_67, w_137_68, w_137_70, w_137_71, w_137_73, w_137_76, w_137_79, w_137_82, w_137_85, w_137_86, w_137_88, w_137_89, w_137_91, w_137_93, w_137_94, w_137_97, w_137_100, w_137_102, w_137_103, w_137_106, w_137_109, w_137_110, w_137_113, w_137_115, w_137_117, w_137_118, w_137_119, w_137_121, w_137_122, w_137_125, w_137_126, w_137_128, w_137_129, w_137_130, w_137_131, w_137_134, w_137_135, w_137_138, w_137_140, w_137_141, w_137_144, w_137_146, w_137_149, w_137_151, w_137_152, w_137_153, w_137_155, w_137_157, w_137_160, w_137_162, w_137_163, w_137_166, w_137_167, w_137_170, w_137_172, w_137_173, w_137_174, w_137_177, w_137_178, w_137_179, w_137_182, w_137_184, w_137_186, w_137_189, w_137_191, w_137_193, w_137_196, w_137_197, w_137_200, w_137_201, w_137_203, w_137_206, w_137_207, w_137_210, w_137_211, w_137_213, w_137_214, w_137_215, w_137_216, w_137_219, w_137_220, w_137_222, w_137_225, w_137_228, w_137_230, w_137_233, w_137_235, w_137_237, w_137_240, w_137_241, w_137_244, w_137_246, w_137_247, w_137_248, w_137_251, w_137_252, w_137_253, w_137_256, w_137_258, w_137_260, w_137_263, w_137_265, w_137_267, w_137_270, w_137_271, w_137_274, w_137_275, w_137_280, w_137_283, w_137_285, b2i_f, if_true, Bool.false_and]
  | true =>
    simp (disch := first | assumption | omega) only [en_137, w_137_0, w_137_1, w_137_4, w_137_6, w_137_7, w_137_8, w_137_9, w_137_10, w_137_11, w_137_14, w_137_15, w_137_16, w_137_19, w_137_20, w_137_23, w_137_24, w_137_25, w_137_26, w_137_27, w_137_28, w_137_31, w_137_32, w_137_33, w_137_36, w_137_37, w_137_38, w_137_39, w_137_42, w_137_43, w_137_44, w_137_45, w_137_47, w_137_48, w_137_50, w_137_51, w_137_53, w_137_56, w_137_59, w_137_62, w_137_65, w_137_66, w_137_67, w_137_68, w_137_70, w_137_71, w_137_73, w_137_76, w_137_79, w_137_82, w_137_85, w_137_86, w_137_88, w_137_89, w_137_91, w_137_93, w_137_94, w_137_97, w_137_100, w_137_102, w_137_103, w_137_106, w_137_109, w_137_110, w_137_113, w_137_115, w_137_117, w_137_118, w_137_119, w_137_121, w_137_122, w_137_125, w_137_126, w_137_128, w_137_129, w_137_130, w_137_131, w_137_134, w_137_135, w_137_138, w_137_140, w_137_141, w_137_144, w_137_146, w_137_149, w_137_151, w_137_152, w_137_153, w_137_155, w_137_157, w_137_160, w_137_162, w_137_163, w_137_166, w_137_167, w_137_170, w_137_172, w_137_173, w_137_174, w_137_177, w_137_178, w_137_179, w_137_182, w_137_184, w_137_186, w_137_189, w_137_191, w_137_193, w_137_196, w_137_197, w_137_200, w_137_201, w_137_203, w_137_206, w_137_207, w_137_210, w_137_211, w_137_213, w_137_214, w_137_215, w_137_216, w_137_219, w_137_220, w_137_222, w_137_225, w_137_228, w_137_230, w_137_233, w_137_235, w_137_237, w_137_240, w_137_241, w_137_244, w_137_246, w_137_247, w_137_248, w_137_251, w_137_252, w_137_253, w_137_256, w_137_258, w_137_260, w_137_263, w_137_265, w_137_267, w_137_270, w_137_271, w_137_274, w_137_275, w_137_280, w_137_283, w_137_285, b2i_t, show ((1 : Int32) = 0) = False by decide, if_false, a0, a12, a24, a36, a48, a60, a72, a152, a232, a312, ic_clamp, inB_ic, er, ek, true_and, m2 hm, Bool.true_and]
    repeat' split
    all_goals simp_all only [b2i, nle, Bool.true_eq_false, reduceCtorEq, Classical.not_not, eq_self, Bool.decide_eq_true, imp_self, Bool.not_eq_true, decide_not, decide_true, decide_false, not_true_eq_false, not_false_eq_true, or_true, true_or, or_false, false_or, and_true, true_and, false_and, and_false, if_true, if_false, Bool.false_eq_true, reduceIte, Bool.or_true, Bool.true_or, Bool.or_false, Bool.false_or, Bool.and_true, Bool.true_and, Bool.and_false, Bool.false_and, Bool.not_true, Bool.not_false, ne_eq, iff_self, or_self, and_self]
theorem s_mfree1 {r k : Nat} {p s ah lo hi : Int32} {acc : Bool} {l10 : Value} (hm : MR X V) (hr : r < 12) (hk : k < 12) : WP 137 0 228 [.ref 97, .int (ic r), .int p, .int s, .int ah, .int lo, .int hi, .int (b2i acc), .int (ic k), .int (V 7 k), l10] [] (hX u L xs X Z) K ↔ WP 137 0 277 [.ref 97, .int (ic r), .int p, .int s, .int ah, .int lo, .int hi, .int (b2i (acc && !decide (V 7 k = ah ∨ ¬ V 2 k = V 2 r ∧ lo < V 7 k ∧ V 7 k < hi))), .int (ic k), .int (V 7 k), l10] [] (hX u L xs X Z) K := by
  have er : (r < 12) = True := eq_true hr
  have ek : (k < 12) = True := eq_true hk
  cases acc with
  | false =>
    simp (disch := first | assumption | omega) only [en_137, w_137_0, w_137_1, w_137_4, w_137_6, w_137_7, w_137_8, w_137_9, w_137_10, w_137_11, w_137_14, w_137_15, w_137_16, w_137_19, w_137_20, w_137_23, w_137_24, w_137_25, w_137_26, w_137_27, w_137_28, w_137_31, w_137_32, w_137_33, w_137_36, w_137_37, w_137_38, w_137_39, w_137_42, w_137_43, w_137_44, w_137_45, w_137_47, w_137_48, w_137_50, w_137_51, w_137_53, w_137_56, w_137_59, w_137_62, w_137_65, w_137_66, w_137_67, w_137_68, w_137_70, w_137_71, w_137_73, w_137_76, w_137_79, w_137_82, w_137_85, w_137_86, w_137_88, w_137_89, w_137_91, w_137_93, w_137_94, w_137_97, w_137_100, w_137_102, w_137_103, w_137_106, w_137_109, w_137_110, w_137_113, w_137_115, w_137_117, w_137_118, w_137_119, w_137_121, w_137_122, w_137_125, w_137_126, w_137_128, w_137_129, w_137_130, w_137_131, w_137_134, w_137_135, w_137_138, w_137_140, w_137_141, w_137_144, w_137_146, w_137_149, w_137_151, w_137_152, w_137_153, w_137_155, w_137_157, w_137_160, w_137_162, w_137_163, w_137_166, w_137_167, w_137_170, w_137_172, w_137_173, w_137_174, w_137_177, w_137_178, w_137_179, w_137_182, w_137_184, w_137_186, w_137_189, w_137_191, w_137_193, w_137_196, w_137_197, w_137_200, w_137_201, w_137_203, w_137_206, w_137_207, w_137_210, w_137_211, w_137_213, w_137_214, w_137_215, w_137_216, w_137_219, w_137_220, w_137_222, w_137_225, w_137_228, w_137_230, w_137_233, w_137_235, w_137_237, w_137_240, w_137_241, w_137_244, w_137_246, w_137_247, w_137_248, w_137_251, w_137_252, w_137_253, w_137_256, w_137_258, w_137_260, w_137_263, w_137_265, w_137_267, w_137_270, w_137_271, w_137_274, w_137_275, w_137_280, w_137_283, w_137_285, b2i_f, if_true, Bool.false_and]
  | true =>
    simp (disch := first | assumption | omega) only [en_137, w_137_0, w_137_1, w_137_4, w_137_6, w_137_7, w_137_8, w_137_9, w_137_10, w_137_11, w_137_14, w_137_15, w_137_16, w_137_19, w_137_20, w_137_23, w_137_24, w_137_25, w_137_26, w_137_27, w_137_28, w_137_31, w_137_32, w_137_33, w_137_36, w_137_37, w_137_38, w_137_39, w_137_42, w_137_43, w_137_44, w_137_45, w_137_47, w_137_48, w_137_50, w_137_51, w_137_53, w_137_56, w_137_59, w_137_62, w_137_65, w_137_66, w_137_67, w_137_68, w_137_70, w_137_71, w_137_73, w_137_76, w_137_79, w_137_82, w_137_85, w_137_86, w_137_88, w_137_89, w_137_91, w_137_93, w_137_94, w_137_97, w_137_100, w_137_102, w_137_103, w_137_106, w_137_109, w_137_110, w_137_113, w_137_115, w_137_117, w_137_118, w_137_119, w_137_121, w_137_122, w_137_125, w_137_126, w_137_128, w_137_129, w_137_130, w_137_131, w_137_134, w_137_135, w_137_138, w_137_140, w_137_141, w_137_144, w_137_146, w_137_149, w_137_151, w_137_152, w_137_153, w_137_155, w_137_157, w_137_160, w_137_162, w_137_163, w_137_166, w_137_167, w_137_170, w_137_172, w_137_173, w_137_174, w_137_177, w_137_178, w_137_179, w_137_182, w_137_184, w_137_186, w_137_189, w_137_191, w_137_193, w_137_196, w_137_197, w_137_200, w_137_201, w_137_203, w_137_206, w_137_207, w_137_210, w_137_211, w_137_213, w_137_214, w_137_215, w_137_216, w_137_219, w_137_220, w_137_222, w_137_225, w_137_228, w_137_230, w_137_233, w_137_235, w_137_237, w_137_240, w_137_241, w_137_244, w_137_246, w_137_247, w_137_248, w_137_251, w_137_252, w_137_253, w_137_256, w_137_258, w_137_260, w_137_263, w_137_265, w_137_267, w_137_270, w_137_271, w_137_274, w_137_275, w_137_280, w_137_283, w_137_285, b2i_t, show ((1 : Int32) = 0) = False by decide, if_false, a0, a12, a24, a36, a48, a60, a72, a152, a232, a312, ic_clamp, inB_ic, er, ek, true_and, m2 hm, Bool.true_and]
    repeat' split
    all_goals simp_all only [b2i, nle, Bool.true_eq_false, reduceCtorEq, Classical.not_not, eq_self, Bool.decide_eq_true, imp_self, Bool.not_eq_true, decide_not, decide_true, decide_false, not_true_eq_false, not_false_eq_true, or_true, true_or, or_false, false_or, and_true, true_and, false_and, and_false, if_true, if_false, Bool.false_eq_true, reduceIte, Bool.or_true, Bool.true_or, Bool.or_false, Bool.false_or, Bool.and_true, Bool.true_and, Bool.and_false, Bool.false_and, Bool.not_true, Bool.not_false, ne_eq, iff_self, or_self, and_self]
theorem l_mfree {r : Nat} {p s ah lo hi : Int32} (hx : RdOK X) (hrr : RR X) (hm : MR X V) (ho : VOK V) (hv : VI (npN X) V) (hr : r < 12) : ∀ d k acc l9 l10, k + d = nrN V → (WP 137 0 91 [.ref 97, .int (ic r), .int p, .int s, .int ah, .int lo, .int hi, .int (b2i acc), .int (ic k), l9, l10] [] (hX u L xs X Z) K ↔ K [.int (b2i (acc && !exB (mbB X V r s lo hi ah) k d))] (hX u L xs X Z)) := by
  obtain ⟨o1, o2, o3, o4⟩ := ho
  have h13 := hm.2.1
  have er : (r < 12) = True := eq_true hr
  intro d
  induction d with
  | zero =>
    intro k acc l9 l10 hk
    have e : (nrN V ≤ k) = True := eq_true (by omega)
    rw [w_137_91]
    simp (disch := first | assumption | omega) only [en_137, w_137_0, w_137_1, w_137_4, w_137_6, w_137_7, w_137_8, w_137_9, w_137_10, w_137_11, w_137_14, w_137_15, w_137_16, w_137_19, w_137_20, w_137_23, w_137_24, w_137_25, w_137_26, w_137_27, w_137_28, w_137_31, w_137_32, w_137_33, w_137_36, w_137_37, w_137_38, w_137_39, w_137_42, w_137_43, w_137_44, w_137_45, w_137_47, w_137_48, w_137_50, w_137_51, w_137_53, w_137_56, w_137_59, w_137_62, w_137_65, w_137_66, w_137_67, w_137_68, w_137_70, w_137_71, w_137_73, w_137_76, w_137_79, w_137_82, w_137_85, w_137_86, w_137_88, w_137_89, w_137_93, w_137_94, w_137_97, w_137_102, w_137_103, w_137_106, w_137_109, w_137_110, w_137_113, w_137_115, w_137_117, w_137_118, w_137_119, w_137_121, w_137_122, w_137_125, w_137_126, w_137_128, w_137_129, w_137_130, w_137_131, w_137_134, w_137_135, w_137_138, w_137_140, w_137_141, w_137_144, w_137_146, w_137_149, w_137_151, w_137_152, w_137_153, w_137_155, w_137_157, w_137_160, w_137_162, w_137_163, w_137_166, w_137_167, w_137_170, w_137_172, w_137_173, w_137_174, w_137_177, w_137_178, w_137_179, w_137_182, w_137_184, w_137_186, w_137_189, w_137_191, w_137_193, w_137_196, w_137_197, w_137_200, w_137_201, w_137_203, w_137_206, w_137_207, w_137_210, w_137_211, w_137_213, w_137_214, w_137_215, w_137_216, w_137_219, w_137_220, w_137_222, w_137_225, w_137_228, w_137_230, w_137_233, w_137_235, w_137_237, w_137_240, w_137_241, w_137_244, w_137_246, w_137_247, w_137_248, w_137_251, w_137_252, w_137_253, w_137_256, w_137_258, w_137_260, w_137_263, w_137_265, w_137_267, w_137_270, w_137_271, w_137_274, w_137_275, w_137_277, w_137_280, w_137_283, w_137_285, h13, o1, ic_le, e, if_true, b2i_n, true_and, exB, Bool.not_false, Bool.and_true]
  | succ d ih =>
    intro k acc l9 l10 hk
    have e : (nrN V ≤ k) = False := eq_false (by omega)
    have hk12 : k < 12 := by omega
    have e2 : (k < 12) = True := eq_true hk12
    have e3 : (12 + k < 392) = True := eq_true (by omega)
    have e4 : (k < 392) = True := eq_true (by omega)
    have q := fun l9 l10 => ih (k + 1) (acc && !mbB X V r s lo hi ah k) l9 l10 (by omega)
    rw [w_137_91]
    unfold exB
    rw [Bool.not_or, ← Bool.and_assoc]
    have fin : ∀ l9 l10, WP 137 0 277 [.ref 97, .int (ic r), .int p, .int s, .int ah, .int lo, .int hi, .int (b2i (acc && !mbB X V r s lo hi ah k)), .int (ic k), l9, l10] [] (hX u L xs X Z) K ↔ K [.int (b2i (acc && !mbB X V r s lo hi ah k && !exB (mbB X V r s lo hi ah) (k + 1) d))] (hX u L xs X Z) := by
      intro l9 l10
      rw [w_137_277, ic_add1, w_137_280]
      exact q l9 l10
    simp (disch := first | assumption | omega) only [en_137, w_137_0, w_137_1, w_137_4, w_137_6, w_137_7, w_137_8, w_137_9, w_137_10, w_137_11, w_137_14, w_137_15, w_137_16, w_137_19, w_137_20, w_137_23, w_137_24, w_137_25, w_137_26, w_137_27, w_137_28, w_137_31, w_137_32, w_137_33, w_137_36, w_137_37, w_137_38, w_137_39, w_137_42, w_137_43, w_137_44, w_137_45, w_137_47, w_137_48, w_137_50, w_137_51, w_137_53, w_137_56, w_137_59, w_137_62, w_137_65, w_137_66, w_137_67, w_137_68, w_137_70, w_137_71, w_137_73, w_137_76, w_137_79, w_137_82, w_137_85, w_137_86, w_137_88, w_137_89, w_137_93, w_137_94, w_137_97, w_137_100, w_137_102, w_137_103, w_137_106, w_137_109, w_137_110, w_137_113, w_137_115, w_137_117, w_137_118, w_137_119, w_137_121, w_137_122, w_137_125, w_137_126, w_137_128, w_137_129, w_137_130, w_137_131, w_137_135, w_137_138, w_137_140, w_137_141, w_137_144, w_137_146, w_137_149, w_137_151, w_137_152, w_137_153, w_137_155, w_137_157, w_137_160, w_137_162, w_137_163, w_137_166, w_137_167, w_137_170, w_137_172, w_137_173, w_137_174, w_137_177, w_137_178, w_137_179, w_137_182, w_137_184, w_137_186, w_137_189, w_137_191, w_137_193, w_137_196, w_137_197, w_137_200, w_137_201, w_137_203, w_137_206, w_137_207, w_137_210, w_137_211, w_137_213, w_137_214, w_137_215, w_137_216, w_137_219, w_137_220, w_137_222, w_137_225, w_137_230, w_137_233, w_137_235, w_137_237, w_137_240, w_137_241, w_137_244, w_137_246, w_137_247, w_137_248, w_137_251, w_137_252, w_137_253, w_137_256, w_137_258, w_137_260, w_137_263, w_137_265, w_137_267, w_137_270, w_137_271, w_137_274, w_137_275, w_137_280, w_137_283, w_137_285, h13, o1, ic_le, e, if_false, ic_eq, a0, a12, a24, a36, a48, a60, a72, a152, a232, a312, ic_clamp, inB_ic, e2, e3, e4, true_and, m7 hm, m6 hm]
    by_cases c0 : k = r
    · have em : mbB X V r s lo hi ah k = false := by unfold mbB; simp [c0]
      rw [em] at fin ⊢
      rw [Bool.not_false, Bool.and_true] at fin ⊢
      rw [if_neg (not_not_intro c0)]
      exact fin _ _
    · rw [if_pos c0]
      by_cases c2 : V 6 k = 2
      · have em : mbB X V r s lo hi ah k = decide (strF V k = s ∨ ¬ V 2 k = V 2 r ∧ ¬ strF V k < lo ∧ strF V k < hi) := by
          unfold mbB
          simp only [c0, c2, not_false_eq_true, true_and, show ((2 : Int32) = 1) = False by decide, false_and, or_false]
        rw [if_neg (not_not_intro c2), s_mfree2 hm hr hk12, ← em]
        exact fin _ _
      · rw [if_pos c2]
        by_cases c1 : V 6 k = 1
        · obtain ⟨a1, a2, _⟩ := (hv.2.1 k hk12).1 (Or.inl c1)
          rw [if_neg (not_not_intro c1)]
          have pk := fun K => m_passes (u := u) (L := L) (xs := xs) (Z := Z) (K := K) hrr hx a2
          rw [← a1] at pk
          simp only [pk, ne_thr, app1, true_and, b2i_z]
          by_cases c3 : pasB X (V 7 k) = true
          · have em : mbB X V r s lo hi ah k = false := by
              unfold mbB
              simp [c0, c2, c1, c3]
            rw [em] at fin ⊢
            rw [Bool.not_false, Bool.and_true] at fin ⊢
            simp (disch := first | assumption | omega) only [en_137, w_137_0, w_137_1, w_137_4, w_137_6, w_137_7, w_137_8, w_137_9, w_137_10, w_137_11, w_137_14, w_137_15, w_137_16, w_137_19, w_137_20, w_137_23, w_137_24, w_137_25, w_137_26, w_137_27, w_137_28, w_137_31, w_137_32, w_137_33, w_137_36, w_137_37, w_137_38, w_137_39, w_137_42, w_137_43, w_137_44, w_137_45, w_137_47, w_137_48, w_137_50, w_137_51, w_137_53, w_137_56, w_137_59, w_137_62, w_137_65, w_137_66, w_137_67, w_137_68, w_137_70, w_137_71, w_137_73, w_137_76, w_137_79, w_137_82, w_137_85, w_137_86, w_137_88, w_137_89, w_137_93, w_137_94, w_137_97, w_137_100, w_137_102, w_137_103, w_137_106, w_137_109, w_137_110, w_137_113, w_137_115, w_137_117, w_137_118, w_137_119, w_137_121, w_137_122, w_137_125, w_137_126, w_137_128, w_137_129, w_137_130, w_137_131, w_137_134, w_137_135, w_137_138, w_137_140, w_137_141, w_137_144, w_137_146, w_137_149, w_137_151, w_137_152, w_137_153, w_137_155, w_137_157, w_137_160, w_137_162, w_137_163, w_137_166, w_137_167, w_137_170, w_137_172, w_137_173, w_137_174, w_137_177, w_137_178, w_137_179, w_137_182, w_137_184, w_137_186, w_137_189, w_137_191, w_137_193, w_137_196, w_137_197, w_137_200, w_137_201, w_137_203, w_137_206, w_137_207, w_137_210, w_137_211, w_137_213, w_137_214, w_137_215, w_137_216, w_137_219, w_137_220, w_137_222, w_137_225, w_137_230, w_137_233, w_137_235, w_137_237, w_137_240, w_137_241, w_137_244, w_137_246, w_137_247, w_137_248, w_137_251, w_137_252, w_137_253, w_137_256, w_137_258, w_137_260, w_137_263, w_137_265, w_137_267, w_137_270, w_137_271, w_137_274, w_137_275, w_137_280, w_137_283, w_137_285, c3, b2i_z, Bool.true_eq_false, not_false_eq_true, if_true]
            exact fin _ _
          · have c3' : pasB X (V 7 k) = false := by simpa using c3
            have em : mbB X V r s lo hi ah k = decide (V 7 k = ah ∨ ¬ V 2 k = V 2 r ∧ lo < V 7 k ∧ V 7 k < hi) := by
              unfold mbB
              simp only [c0, c1, c3', not_false_eq_true, true_and, show ((1 : Int32) = 2) = False by decide, false_and, false_or]
            simp (disch := first | assumption | omega) only [en_137, w_137_0, w_137_1, w_137_4, w_137_6, w_137_7, w_137_8, w_137_9, w_137_10, w_137_11, w_137_14, w_137_15, w_137_16, w_137_19, w_137_20, w_137_23, w_137_24, w_137_25, w_137_26, w_137_27, w_137_28, w_137_31, w_137_32, w_137_33, w_137_36, w_137_37, w_137_38, w_137_39, w_137_42, w_137_43, w_137_44, w_137_45, w_137_47, w_137_48, w_137_50, w_137_51, w_137_53, w_137_56, w_137_59, w_137_62, w_137_65, w_137_66, w_137_67, w_137_68, w_137_70, w_137_71, w_137_73, w_137_76, w_137_79, w_137_82, w_137_85, w_137_86, w_137_88, w_137_89, w_137_93, w_137_94, w_137_97, w_137_100, w_137_102, w_137_103, w_137_106, w_137_109, w_137_110, w_137_113, w_137_115, w_137_117, w_137_118, w_137_119, w_137_121, w_137_122, w_137_125, w_137_126, w_137_128, w_137_129, w_137_130, w_137_131, w_137_134, w_137_135, w_137_138, w_137_140, w_137_141, w_137_144, w_137_146, w_137_149, w_137_151, w_137_152, w_137_153, w_137_155, w_137_157, w_137_160, w_137_162, w_137_163, w_137_166, w_137_167, w_137_170, w_137_172, w_137_173, w_137_174, w_137_177, w_137_178, w_137_179, w_137_182, w_137_184, w_137_186, w_137_189, w_137_191, w_137_193, w_137_196, w_137_197, w_137_200, w_137_201, w_137_203, w_137_206, w_137_207, w_137_210, w_137_211, w_137_213, w_137_214, w_137_215, w_137_216, w_137_219, w_137_220, w_137_222, w_137_225, w_137_230, w_137_233, w_137_235, w_137_237, w_137_240, w_137_241, w_137_244, w_137_246, w_137_247, w_137_248, w_137_251, w_137_252, w_137_253, w_137_256, w_137_258, w_137_260, w_137_263, w_137_265, w_137_267, w_137_270, w_137_271, w_137_274, w_137_275, w_137_280, w_137_283, w_137_285, c3', b2i_z, not_true_eq_false, if_false]
            rw [s_mfree1 hm hr hk12, ← em]
            exact fin _ _
        · have em : mbB X V r s lo hi ah k = false := by unfold mbB; simp [c1, c2]
          rw [em] at fin ⊢
          rw [Bool.not_false, Bool.and_true] at fin ⊢
          rw [if_pos c1]
          exact fin _ _
theorem blk_eq {r sn : Nat} (hx : RdOK X) (ho : VOK V) (hv : VI (npN X) V) (hr : r < nrN V) (h1 : V 6 r = 1) (hs : strF V r = ic sn) (hsn : sn + 1 < npN X) {k : Nat} (hk : k < nrN V) : blkB V r (ic sn) (ic (dnF (fun j => pasB X (ic j)) sn)) (ic (upF (fun j => pasB X (ic j)) (npN X - (sn + 1)) (sn + 1))) (aheF V r) (!pasB X (aheF V r)) k = mbB X V r (ic sn) (ic (dnF (fun j => pasB X (ic j)) sn)) (ic (upF (fun j => pasB X (ic j)) (npN X - (sn + 1)) (sn + 1))) (aheF V r) k := by
  have h12 := ho.2.1
  have h10 := hx.2.2.1
  unfold blkB mbB
  rw [decide_eq_decide]
  by_cases e : k = r
  · subst e
    have ne : ¬ V 7 k = aheF V k := by
      obtain ⟨a1, a2, _⟩ := (hv.2.1 k (by omega)).1 (Or.inl h1)
      intro q
      unfold aheF at q
      by_cases c : V 2 k = 0
      · rw [if_pos c, a1] at q
        have := congrArg Int32.toInt q
        rcases Nat.eq_zero_or_pos (pN V k) with z | z
        · rw [z] at this; exact absurd this (by decide)
        · rw [ic_pred z, ic_toInt (by omega), ic_toInt (by omega)] at this; omega
      · rw [if_neg c, a1, ic_add1] at q
        have := congrArg Int32.toInt q
        rw [ic_toInt (by omega), ic_toInt (by omega)] at this; omega
    simp [h1, ne]
  · by_cases c2 : V 6 k = 2
    · simp only [e, c2, not_false_eq_true, true_and, show ((2 : Int32) = 1) = False by decide, false_and, or_false]
    · by_cases c1 : V 6 k = 1
      · obtain ⟨a1, a2, _⟩ := (hv.2.1 k (by omega)).1 (Or.inl c1)
        simp only [e, c1, not_false_eq_true, true_and, show ((1 : Int32) = 2) = False by decide, false_and, false_or]
        have dl := dn_le (P := fun j => pasB X (ic j)) sn
        have ul := up_ge (P := fun j => pasB X (ic j)) (npN X - (sn + 1)) (sn + 1)
        by_cases c3 : pasB X (V 7 k) = true
        · have n1 : ¬ ((!pasB X (aheF V r)) = true ∧ V 7 k = aheF V r) := by
            rintro ⟨z1, z2⟩
            rw [← z2, c3] at z1
            exact absurd z1 (by decide)
          have n2 : ¬ (ic (dnF (fun j => pasB X (ic j)) sn) < V 7 k ∧ V 7 k < ic (upF (fun j => pasB X (ic j)) (npN X - (sn + 1)) (sn + 1))) := by
            rintro ⟨z1, z2⟩
            rw [a1, ic_lt (by omega) (by omega)] at z1
            rw [a1, ic_lt (by omega) (by omega)] at z2
            rw [a1] at c3
            by_cases z3 : pN V k ≤ sn
            · have := dl.2 (pN V k) z1 z3
              simp only [c3] at this
              exact absurd this (by decide)
            · have := ul.2.2 (pN V k) (by omega) z2
              simp only [c3] at this
              exact absurd this (by decide)
          simp only [c3, Bool.true_eq_false, false_and]
          constructor
          · rintro (z | z)
            · exact n1 z
            · exact n2 z.2
          · intro z; exact z.elim
        · have c3' : pasB X (V 7 k) = false := by simpa using c3
          simp only [c3', true_and]
          constructor
          · rintro (z | z)
            · exact Or.inl z.2
            · exact Or.inr z
          · rintro (z | z)
            · refine Or.inl ⟨?_, z⟩
              rw [← z, c3']
              rfl
            · exact Or.inr z
      · simp only [c1, c2, false_and, or_self, and_false]
theorem st_str {r : Nat} (hv : VI1 (npN X) V r) (h1 : V 6 r = 1) (h10 : npN X ≤ 10) : ∃ sn, strF V r = ic sn ∧ sn + 1 < npN X := by
  obtain ⟨a1, a2, a3, a4⟩ := hv.1 (Or.inl h1)
  unfold strF
  by_cases c : V 2 r = 0
  · rw [if_pos c, a1]
    have := a3 c
    exact ⟨_, ic_pred this, by omega⟩
  · rw [if_neg c, a1]
    exact ⟨_, rfl, a4 c⟩
set_option maxRecDepth 8000 in
theorem m_isFree {r sn : Nat} (hx : RdOK X) (hrr : RR X) (hm : MR X V) (ho : VOK V) (hv : VI (npN X) V) (hr : r < nrN V) (h1 : V 6 r = 1) (hs : strF V r = ic sn) (hsn : sn + 1 < npN X) : Call 137 [.ref 97, .int (ic r)] (hX u L xs X Z) K ↔ K [.int (b2i (frB X V r sn (npN X) (nrN V)))] (hX u L xs X Z) := by
  have h12 := ho.2.1
  have hr12 : r < 12 := by omega
  have er : (r < 12) = True := eq_true hr12
  have e3 : (12 + r < 392) = True := eq_true (by omega)
  have key : ∀ (l5 l6 l7 l8 l9 l10 : Value) (p : Int32), (WP 137 0 47 [.ref 97, .int (ic r), .int p, .int (ic sn), .int (aheF V r), l5, l6, l7, l8, l9, l10] [] (hX u L xs X Z) K ↔ K [.int (b2i (frB X V r sn (npN X) (nrN V)))] (hX u L xs X Z)) := by
    intro l5 l6 l7 l8 l9 l10 p
    rw [w_137_47, w_137_48, l_mlow (sn := sn) hx hrr sn (by omega), w_137_65, w_137_66, w_137_67, w_137_68, ic_add1, l_mhigh hx hrr (npN X - (sn + 1)) (sn + 1) (by omega) (by omega), w_137_85, w_137_86, w_137_88, w_137_89]
    have g := l_mfree (u := u) (L := L) (xs := xs) (Z := Z) (K := K) (p := p) (s := ic sn) (ah := aheF V r) (lo := ic (dnF (fun j => pasB X (ic j)) sn)) (hi := ic (upF (fun j => pasB X (ic j)) (npN X - (sn + 1)) (sn + 1))) hx hrr hm ho hv hr12 (nrN V) 0 true l9 l10 (by omega)
    rw [b2i_t, ← ic_z] at g
    rw [g]
    unfold frB
    rw [Bool.true_and, exB_congr (fun j _ hj => (blk_eq hx ho hv hr h1 hs hsn (by omega)).symm)]
  by_cases b : V 2 r = 0
  · have hs' : V 7 r - 1 = ic sn := by rw [← hs]; unfold strF; rw [if_pos b]
    have ha : aheF V r = ic sn := by unfold aheF; rw [if_pos b]; exact hs'
    rw [ha] at key
    simp (disch := first | assumption | omega) only [en_137, w_137_0, w_137_1, w_137_4, w_137_6, w_137_7, w_137_8, w_137_9, w_137_10, w_137_11, w_137_14, w_137_15, w_137_16, w_137_19, w_137_20, w_137_23, w_137_24, w_137_25, w_137_26, w_137_27, w_137_28, w_137_31, w_137_32, w_137_33, w_137_36, w_137_37, w_137_38, w_137_39, w_137_42, w_137_43, w_137_44, w_137_45, w_137_48, w_137_50, w_137_51, w_137_53, w_137_56, w_137_59, w_137_62, w_137_65, w_137_66, w_137_67, w_137_68, w_137_70, w_137_71, w_137_73, w_137_76, w_137_79, w_137_82, w_137_85, w_137_86, w_137_88, w_137_89, w_137_91, w_137_93, w_137_94, w_137_97, w_137_100, w_137_102, w_137_103, w_137_106, w_137_109, w_137_110, w_137_113, w_137_115, w_137_117, w_137_118, w_137_119, w_137_121, w_137_122, w_137_125, w_137_126, w_137_128, w_137_129, w_137_130, w_137_131, w_137_134, w_137_135, w_137_138, w_137_140, w_137_141, w_137_144, w_137_146, w_137_149, w_137_151, w_137_152, w_137_153, w_137_155, w_137_157, w_137_160, w_137_162, w_137_163, w_137_166, w_137_167, w_137_170, w_137_172, w_137_173, w_137_174, w_137_177, w_137_178, w_137_179, w_137_182, w_137_184, w_137_186, w_137_189, w_137_191, w_137_193, w_137_196, w_137_197, w_137_200, w_137_201, w_137_203, w_137_206, w_137_207, w_137_210, w_137_211, w_137_213, w_137_214, w_137_215, w_137_216, w_137_219, w_137_220, w_137_222, w_137_225, w_137_228, w_137_230, w_137_233, w_137_235, w_137_237, w_137_240, w_137_241, w_137_244, w_137_246, w_137_247, w_137_248, w_137_251, w_137_252, w_137_253, w_137_256, w_137_258, w_137_260, w_137_263, w_137_265, w_137_267, w_137_270, w_137_271, w_137_274, w_137_275, w_137_277, w_137_280, w_137_283, w_137_285, a0, a12, a24, a36, a48, a60, a72, a152, a232, a312, ic_clamp, inB_ic, er, e3, true_and, m7 hm, m2 hm, b, if_true, hs']
    exact key _ _ _ _ _ _ _
  · have hs' : V 7 r = ic sn := by rw [← hs]; unfold strF; rw [if_neg b]
    have ha : aheF V r = ic sn + 1 := by unfold aheF; rw [if_neg b, hs']
    rw [ha] at key
    simp (disch := first | assumption | omega) only [en_137, w_137_0, w_137_1, w_137_4, w_137_6, w_137_7, w_137_8, w_137_9, w_137_10, w_137_11, w_137_14, w_137_15, w_137_16, w_137_19, w_137_20, w_137_23, w_137_24, w_137_25, w_137_26, w_137_27, w_137_28, w_137_31, w_137_32, w_137_33, w_137_36, w_137_37, w_137_38, w_137_39, w_137_42, w_137_43, w_137_44, w_137_45, w_137_48, w_137_50, w_137_51, w_137_53, w_137_56, w_137_59, w_137_62, w_137_65, w_137_66, w_137_67, w_137_68, w_137_70, w_137_71, w_137_73, w_137_76, w_137_79, w_137_82, w_137_85, w_137_86, w_137_88, w_137_89, w_137_91, w_137_93, w_137_94, w_137_97, w_137_100, w_137_102, w_137_103, w_137_106, w_137_109, w_137_110, w_137_113, w_137_115, w_137_117, w_137_118, w_137_119, w_137_121, w_137_122, w_137_125, w_137_126, w_137_128, w_137_129, w_137_130, w_137_131, w_137_134, w_137_135, w_137_138, w_137_140, w_137_141, w_137_144, w_137_146, w_137_149, w_137_151, w_137_152, w_137_153, w_137_155, w_137_157, w_137_160, w_137_162, w_137_163, w_137_166, w_137_167, w_137_170, w_137_172, w_137_173, w_137_174, w_137_177, w_137_178, w_137_179, w_137_182, w_137_184, w_137_186, w_137_189, w_137_191, w_137_193, w_137_196, w_137_197, w_137_200, w_137_201, w_137_203, w_137_206, w_137_207, w_137_210, w_137_211, w_137_213, w_137_214, w_137_215, w_137_216, w_137_219, w_137_220, w_137_222, w_137_225, w_137_228, w_137_230, w_137_233, w_137_235, w_137_237, w_137_240, w_137_241, w_137_244, w_137_246, w_137_247, w_137_248, w_137_251, w_137_252, w_137_253, w_137_256, w_137_258, w_137_260, w_137_263, w_137_265, w_137_267, w_137_270, w_137_271, w_137_274, w_137_275, w_137_277, w_137_280, w_137_283, w_137_285, a0, a12, a24, a36, a48, a60, a72, a152, a232, a312, ic_clamp, inB_ic, er, e3, true_and, m7 hm, m2 hm, b, if_false, hs']
    exact key _ _ _ _ _ _ _
end
