/-! THE MODEL'S WORLD: arriving -/
section
variable {u : Nat × Nat} {L : Nat} {xs : Nat → Int32} {X : Nat → Nat → Int32} {Z : Nat → Nat → Int64} {K : List Value → AH → Prop} {V V' W : Nat → Nat → Int32}
theorem l_marr {r n : Nat} {p : Int32} (hr : r < 12) (hn : n ≤ 80) : ∀ d k X W, MR X W → W 14 0 = ic n → W 7 r = p → k + d = n → (∀ X' l3, MR X' (itr (outF r) k d W) → Fr X X' → WP 132 0 134 [.ref 97, .int (ic r), .int p, l3] [] (hX u L xs X' Z) K) → WP 132 0 59 [.ref 97, .int (ic r), .int p, .int (ic k)] [] (hX u L xs X Z) K := by
  intro d
  induction d with
  | zero =>
    intro k X W hm h14 h7 hk hK
    have h18 := hm.2.2.1
    have e : (n ≤ k) = True := eq_true (by omega)
    rw [w_132_59]
    simp (disch := first | assumption | omega) only [en_132, w_132_0, w_132_1, w_132_4, w_132_6, w_132_7, w_132_8, w_132_9, w_132_10, w_132_13, w_132_14, w_132_15, w_132_18, w_132_19, w_132_22, w_132_23, w_132_24, w_132_25, w_132_26, w_132_29, w_132_31, w_132_32, w_132_33, w_132_34, w_132_35, w_132_36, w_132_39, w_132_40, w_132_41, w_132_42, w_132_43, w_132_44, w_132_45, w_132_48, w_132_50, w_132_51, w_132_52, w_132_53, w_132_56, w_132_57, w_132_58, w_132_60, w_132_61, w_132_64, w_132_68, w_132_71, w_132_73, w_132_74, w_132_75, w_132_76, w_132_77, w_132_80, w_132_81, w_132_84, w_132_87, w_132_88, w_132_89, w_132_90, w_132_91, w_132_94, w_132_95, w_132_98, w_132_99, w_132_100, w_132_101, w_132_104, w_132_105, w_132_108, w_132_110, w_132_111, w_132_112, w_132_113, w_132_114, w_132_115, w_132_118, w_132_121, w_132_122, w_132_123, w_132_124, w_132_127, w_132_128, w_132_131, w_132_135, w_132_136, w_132_139, w_132_140, w_132_141, w_132_144, w_132_145, w_132_148, w_132_149, w_132_150, w_132_153, w_132_154, w_132_157, w_132_158, w_132_161, w_132_162, w_132_163, w_132_164, w_132_165, w_132_166, w_132_167, w_132_170, w_132_172, w_132_173, w_132_174, w_132_175, w_132_176, w_132_177, w_132_180, w_132_182, w_132_183, w_132_184, w_132_185, w_132_188, w_132_189, h18, h14, ic_le, e, if_true]
    exact hK X _ hm Fr_refl
  | succ d ih =>
    intro k X W hm h14 h7 hk hK
    have h18 := hm.2.2.1
    have h23 := hm.1
    have e : (n ≤ k) = False := eq_false (by omega)
    have e2 : (k < 80) = True := eq_true (by omega)
    have e3 : (72 + k < 392) = True := eq_true (by omega)
    have e4 : (152 + k < 392) = True := eq_true (by omega)
    have e5 : (232 + k < 392) = True := eq_true (by omega)
    unfold itr at hK
    rw [w_132_59]
    by_cases c : W 19 k = 1 ∧ W 20 k = ic r ∧ W 17 k = W 7 r
    · have g1 := u19 (v := 2) hm (show k < 80 by omega)
      have g2 := u21 (v := W 0 5) g1 (show k < 80 by omega)
      have c' := c
      obtain ⟨c1, c2, c3⟩ := c
      rw [h7] at c3
      simp (disch := first | assumption | omega) only [en_132, w_132_0, w_132_1, w_132_4, w_132_6, w_132_7, w_132_8, w_132_9, w_132_10, w_132_13, w_132_14, w_132_15, w_132_18, w_132_19, w_132_22, w_132_23, w_132_24, w_132_25, w_132_26, w_132_29, w_132_31, w_132_32, w_132_33, w_132_34, w_132_35, w_132_36, w_132_39, w_132_40, w_132_41, w_132_42, w_132_43, w_132_44, w_132_45, w_132_48, w_132_50, w_132_51, w_132_52, w_132_53, w_132_56, w_132_57, w_132_58, w_132_60, w_132_61, w_132_64, w_132_67, w_132_68, w_132_71, w_132_73, w_132_74, w_132_75, w_132_76, w_132_77, w_132_80, w_132_81, w_132_84, w_132_87, w_132_88, w_132_89, w_132_90, w_132_91, w_132_94, w_132_95, w_132_98, w_132_99, w_132_100, w_132_101, w_132_104, w_132_105, w_132_108, w_132_110, w_132_111, w_132_112, w_132_113, w_132_114, w_132_115, w_132_118, w_132_121, w_132_122, w_132_123, w_132_124, w_132_127, w_132_128, w_132_131, w_132_135, w_132_136, w_132_139, w_132_140, w_132_141, w_132_144, w_132_145, w_132_148, w_132_149, w_132_150, w_132_153, w_132_154, w_132_157, w_132_158, w_132_161, w_132_162, w_132_163, w_132_164, w_132_165, w_132_166, w_132_167, w_132_170, w_132_172, w_132_173, w_132_174, w_132_175, w_132_176, w_132_177, w_132_180, w_132_182, w_132_183, w_132_184, w_132_185, w_132_188, w_132_189, h18, h14, ic_le, e, if_false, a0, a12, a24, a36, a48, a60, a72, a152, a232, a312, ic_clamp, inB_ic, e2, e3, e4, e5, true_and, m19 hm, m20 hm, m17 hm, c1, c2, c3, not_true_eq_false, sv_d, sv_a, h23, ic_add1]
      refine ih (k + 1) _ (outF r k W) ?_ ?_ ?_ (by omega) (fun X' l3 h1 h2 => hK X' l3 h1 (Fr_tr (Fr_tr Fr_row Fr_row) h2))
      · rw [out_at c']
        exact MR_ex g2 (fun a h1 h2 h3 => cntF_ne h1 h2)
      · rw [outF_14]; exact h14
      · rw [outF_ne (by decide) (by decide) (by decide) (by decide)]; exact h7
    · have eo : outF r k W = W := by unfold outF; rw [if_neg c]
      rw [eo] at hK
      have nxt := ih (k + 1) X W hm h14 h7 (by omega) hK
      simp (disch := first | assumption | omega) only [en_132, w_132_0, w_132_1, w_132_4, w_132_6, w_132_7, w_132_8, w_132_9, w_132_10, w_132_13, w_132_14, w_132_15, w_132_18, w_132_19, w_132_22, w_132_23, w_132_24, w_132_25, w_132_26, w_132_29, w_132_31, w_132_32, w_132_33, w_132_34, w_132_35, w_132_36, w_132_39, w_132_40, w_132_41, w_132_42, w_132_43, w_132_44, w_132_45, w_132_48, w_132_50, w_132_51, w_132_52, w_132_53, w_132_56, w_132_57, w_132_58, w_132_60, w_132_61, w_132_64, w_132_67, w_132_68, w_132_71, w_132_73, w_132_74, w_132_75, w_132_76, w_132_77, w_132_80, w_132_81, w_132_84, w_132_87, w_132_88, w_132_89, w_132_90, w_132_91, w_132_94, w_132_95, w_132_98, w_132_99, w_132_100, w_132_101, w_132_105, w_132_108, w_132_110, w_132_111, w_132_112, w_132_113, w_132_114, w_132_115, w_132_118, w_132_121, w_132_122, w_132_123, w_132_124, w_132_127, w_132_128, w_132_131, w_132_135, w_132_136, w_132_139, w_132_140, w_132_141, w_132_144, w_132_145, w_132_148, w_132_149, w_132_150, w_132_153, w_132_154, w_132_157, w_132_158, w_132_161, w_132_162, w_132_163, w_132_164, w_132_165, w_132_166, w_132_167, w_132_170, w_132_172, w_132_173, w_132_174, w_132_175, w_132_176, w_132_177, w_132_180, w_132_182, w_132_183, w_132_184, w_132_185, w_132_188, w_132_189, h18, h14, ic_le, e, if_false, a0, a12, a24, a36, a48, a60, a72, a152, a232, a312, ic_clamp, inB_ic, e2, e3, e4, e5, true_and, m19 hm, m20 hm, m17 hm, h23, ic_add1]
      rw [h7] at c
      by_cases c1 : W 19 k = 1
      · by_cases c2 : W 20 k = ic r
        · have c3 : ¬ W 17 k = p := fun q => c ⟨c1, c2, q⟩
          simp only [c1, c2, c3, not_true_eq_false, not_false_eq_true, if_true, if_false]
          exact nxt
        · simp only [c1, c2, not_true_eq_false, not_false_eq_true, if_true, if_false]
          exact nxt
      · simp only [c1, not_false_eq_true, if_true]
        exact nxt
theorem sta_alt {r : Nat} {p m : Int32} (h8 : W 8 r = 0) : staF W r p m = sv (sv (sv W 7 r p) 6 r 1) 13 r m := by
  funext a i
  unfold staF
  simp only [sv_at]
  by_cases e : i = r
  · subst e
    by_cases e8 : a = 8
    · subst e8; simp [h8]
    · by_cases e6 : a = 6
      · subst e6; simp
      · by_cases e7 : a = 7
        · subst e7; simp
        · simp [e8, e6, e7]
  · simp [e]
theorem end_alt {r : Nat} {m : Int32} : endF W r m = sv (sv (sv W 6 r 3) 13 r 0) 12 r m := rfl
set_option maxRecDepth 8000 in
theorem m_arrives {r q : Nat} (hx : RdOK X) (hrr : RR X) (hr : r < 12) (hm : MR X W) (ho : VOK W) (h8 : W 8 r = 0) (hq : aheF W r = ic q) (q1 : q < npN X) (q2 : W 2 r = 0 → q + 1 < npN X) (q3 : ¬ W 2 r = 0 → 1 ≤ q) (hK : ∀ X', MR X' (if aheF W r ≤ 0 ∨ X 1 0 - 1 ≤ aheF W r then endF (letOutF (staF W r (aheF W r) (W 0 5)) r) r (W 0 5) else letOutF (staF W r (aheF W r) (W 0 5)) r) → Fr X X' → K [] (hX u L xs X' Z)) : Call 132 [.ref 97, .int (ic r)] (hX u L xs X Z) K := by
  obtain ⟨hp, h1, h10, hs, h20, hmm, hu⟩ := hx
  have er : (r < 12) = True := eq_true hr
  have e1 : (12 + r < 392) = True := eq_true (by omega)
  have e2 : (r < 392) = True := eq_true (by omega)
  have e3 : (36 + r < 392) = True := eq_true (by omega)
  have e4 : (48 + r < 392) = True := eq_true (by omega)
  have h23 := hm.1
  have g1 := u7 (v := aheF W r) hm hr
  have g2 := u6 (v := 1) g1 hr
  have g3 := u13 (v := W 0 5) g2 hr
  rw [← sta_alt h8] at g3
  have s14 : staF W r (aheF W r) (W 0 5) 14 0 = ic (nlF W) := by rw [sta_ne (by decide) (by decide) (by decide) (by decide)]; exact ho.2.2.1
  have snl : nlF (staF W r (aheF W r) (W 0 5)) = nlF W := by unfold nlF; rw [sta_ne (by decide) (by decide) (by decide) (by decide)]
  have key : WP 132 0 59 [.ref 97, .int (ic r), .int (aheF W r), .int (ic 0)] [] (hX u L xs (sv (sv (sv X 113 (12 + r) (aheF W r)) 113 r 1) 113 (36 + r) (W 0 5)) Z) K := by
    refine l_marr hr ho.2.2.2 (nlF W) 0 _ _ g3 s14 sta_at.2 (by omega) (fun X' l3 hm' hf => ?_)
    have hf' : Fr X X' := Fr_tr (Fr_tr (Fr_tr Fr_row Fr_row) Fr_row) hf
    have f10 : X' 97 10 = ic (npN X) := by rw [hf'.2 10 (by decide), hrr.1]; exact hp
    have em : itr (outF r) 0 (nlF W) (staF W r (aheF W r) (W 0 5)) = letOutF (staF W r (aheF W r) (W 0 5)) r := by unfold letOutF; rw [snl]
    rw [em] at hm'
    have d2 : letOutF (staF W r (aheF W r) (W 0 5)) r 2 r = W 2 r := by rw [letOutF_ne (by decide) (by decide) (by decide) (by decide), sta_ne (by decide) (by decide) (by decide) (by decide)]
    have d0 : letOutF (staF W r (aheF W r) (W 0 5)) r 0 5 = W 0 5 := by rw [letOutF_ne (by decide) (by decide) (by decide) (by decide), sta_ne (by decide) (by decide) (by decide) (by decide)]
    have m2r : X' 105 r = W 2 r := (m2 hm' hr).trans d2
    have h23' := hm'.1
    rw [d0] at h23'
    have v1 := u6 (v := 3) hm' hr
    have v2 := u13 (v := 0) v1 hr
    have v3 := u12 (v := W 0 5) v2 hr
    have hcond : (aheF W r ≤ 0 ∨ X 1 0 - 1 ≤ aheF W r) = (q = 0 ∨ npN X - 1 ≤ q) := by
      rw [hq, hp, ic_pred h1, ic_z, ic_le (by omega) (by omega), ic_le (by omega) (by omega)]
      exact propext ⟨fun z => by omega, fun z => by omega⟩
    by_cases c : q = 0 ∨ npN X - 1 ≤ q
    · have c' : aheF W r ≤ 0 ∨ X 1 0 - 1 ≤ aheF W r := by rw [hcond]; exact c
      rw [if_pos c'] at hK
      have fin := hK _ v3 (Fr_tr hf' (Fr_tr (Fr_tr Fr_row Fr_row) Fr_row))
      by_cases b : W 2 r = 0
      · have := q2 b
        have eq0 : (ic q = 0) = True := by rw [ic_z, ic_eq (by omega) (by omega)]; exact eq_true (by omega)
        simp (disch := first | assumption | omega) only [en_132, w_132_0, w_132_1, w_132_4, w_132_6, w_132_7, w_132_8, w_132_9, w_132_10, w_132_13, w_132_14, w_132_15, w_132_18, w_132_19, w_132_22, w_132_23, w_132_24, w_132_25, w_132_26, w_132_29, w_132_31, w_132_32, w_132_33, w_132_34, w_132_35, w_132_36, w_132_39, w_132_40, w_132_41, w_132_42, w_132_43, w_132_44, w_132_45, w_132_48, w_132_50, w_132_51, w_132_52, w_132_53, w_132_56, w_132_57, w_132_58, w_132_60, w_132_61, w_132_64, w_132_67, w_132_68, w_132_71, w_132_73, w_132_74, w_132_75, w_132_76, w_132_77, w_132_80, w_132_81, w_132_84, w_132_87, w_132_88, w_132_89, w_132_90, w_132_91, w_132_94, w_132_95, w_132_98, w_132_99, w_132_100, w_132_101, w_132_104, w_132_105, w_132_108, w_132_110, w_132_111, w_132_112, w_132_113, w_132_114, w_132_115, w_132_118, w_132_121, w_132_122, w_132_123, w_132_124, w_132_127, w_132_128, w_132_131, w_132_134, w_132_135, w_132_136, w_132_139, w_132_140, w_132_141, w_132_144, w_132_145, w_132_148, w_132_149, w_132_150, w_132_153, w_132_154, w_132_157, w_132_158, w_132_161, w_132_162, w_132_163, w_132_164, w_132_165, w_132_166, w_132_167, w_132_170, w_132_172, w_132_173, w_132_174, w_132_175, w_132_176, w_132_177, w_132_180, w_132_182, w_132_183, w_132_184, w_132_185, w_132_188, w_132_189, a0, a12, a24, a36, a48, a60, a72, a152, a232, a312, ic_clamp, inB_ic, er, e1, e2, e3, e4, true_and, m2r, b, if_true, hq, eq0, not_true_eq_false, if_false, sv_d, sv_a, h23']
        exact fin
      · have := q3 b
        have eq0 : (ic q = ic (npN X - 1)) = True := by rw [ic_eq (by omega) (by omega)]; exact eq_true (by omega)
        simp (disch := first | assumption | omega) only [en_132, w_132_0, w_132_1, w_132_4, w_132_6, w_132_7, w_132_8, w_132_9, w_132_10, w_132_13, w_132_14, w_132_15, w_132_18, w_132_19, w_132_22, w_132_23, w_132_24, w_132_25, w_132_26, w_132_29, w_132_31, w_132_32, w_132_33, w_132_34, w_132_35, w_132_36, w_132_39, w_132_40, w_132_41, w_132_42, w_132_43, w_132_44, w_132_45, w_132_48, w_132_50, w_132_51, w_132_52, w_132_53, w_132_56, w_132_57, w_132_58, w_132_60, w_132_61, w_132_64, w_132_67, w_132_68, w_132_71, w_132_73, w_132_74, w_132_75, w_132_76, w_132_77, w_132_80, w_132_81, w_132_84, w_132_87, w_132_88, w_132_89, w_132_90, w_132_91, w_132_94, w_132_95, w_132_98, w_132_99, w_132_100, w_132_101, w_132_104, w_132_105, w_132_108, w_132_110, w_132_111, w_132_112, w_132_113, w_132_114, w_132_115, w_132_118, w_132_121, w_132_122, w_132_123, w_132_124, w_132_127, w_132_128, w_132_131, w_132_134, w_132_135, w_132_136, w_132_139, w_132_140, w_132_141, w_132_144, w_132_145, w_132_148, w_132_149, w_132_150, w_132_153, w_132_154, w_132_157, w_132_158, w_132_161, w_132_162, w_132_163, w_132_164, w_132_165, w_132_166, w_132_167, w_132_170, w_132_172, w_132_173, w_132_174, w_132_175, w_132_176, w_132_177, w_132_180, w_132_182, w_132_183, w_132_184, w_132_185, w_132_188, w_132_189, a0, a12, a24, a36, a48, a60, a72, a152, a232, a312, ic_clamp, inB_ic, er, e1, e2, e3, e4, true_and, m2r, b, if_false, f10, ic_pred, hq, eq0, not_true_eq_false, sv_d, sv_a, h23']
        exact fin
    · have c' : ¬ (aheF W r ≤ 0 ∨ X 1 0 - 1 ≤ aheF W r) := by rw [hcond]; exact c
      rw [if_neg c'] at hK
      have fin := hK _ hm' hf'
      by_cases b : W 2 r = 0
      · have eq0 : (ic q = 0) = False := by rw [ic_z, ic_eq (by omega) (by omega)]; exact eq_false (by omega)
        simp (disch := first | assumption | omega) only [en_132, w_132_0, w_132_1, w_132_4, w_132_6, w_132_7, w_132_8, w_132_9, w_132_10, w_132_13, w_132_14, w_132_15, w_132_18, w_132_19, w_132_22, w_132_23, w_132_24, w_132_25, w_132_26, w_132_29, w_132_31, w_132_32, w_132_33, w_132_34, w_132_35, w_132_36, w_132_39, w_132_40, w_132_41, w_132_42, w_132_43, w_132_44, w_132_45, w_132_48, w_132_50, w_132_51, w_132_52, w_132_53, w_132_56, w_132_57, w_132_58, w_132_60, w_132_61, w_132_64, w_132_67, w_132_68, w_132_71, w_132_73, w_132_74, w_132_75, w_132_76, w_132_77, w_132_80, w_132_81, w_132_84, w_132_87, w_132_88, w_132_89, w_132_90, w_132_91, w_132_94, w_132_95, w_132_98, w_132_99, w_132_100, w_132_101, w_132_104, w_132_105, w_132_108, w_132_110, w_132_111, w_132_112, w_132_113, w_132_114, w_132_115, w_132_118, w_132_121, w_132_122, w_132_123, w_132_124, w_132_127, w_132_128, w_132_131, w_132_134, w_132_135, w_132_136, w_132_139, w_132_140, w_132_141, w_132_144, w_132_145, w_132_148, w_132_149, w_132_150, w_132_153, w_132_154, w_132_158, w_132_161, w_132_162, w_132_163, w_132_164, w_132_165, w_132_166, w_132_167, w_132_170, w_132_172, w_132_173, w_132_174, w_132_175, w_132_176, w_132_177, w_132_180, w_132_182, w_132_183, w_132_184, w_132_185, w_132_188, w_132_189, a0, a12, a24, a36, a48, a60, a72, a152, a232, a312, ic_clamp, inB_ic, er, e1, e2, e3, e4, true_and, m2r, b, if_true, hq, eq0, not_false_eq_true]
        exact fin
      · have eq0 : (ic q = ic (npN X - 1)) = False := by rw [ic_eq (by omega) (by omega)]; exact eq_false (by omega)
        simp (disch := first | assumption | omega) only [en_132, w_132_0, w_132_1, w_132_4, w_132_6, w_132_7, w_132_8, w_132_9, w_132_10, w_132_13, w_132_14, w_132_15, w_132_18, w_132_19, w_132_22, w_132_23, w_132_24, w_132_25, w_132_26, w_132_29, w_132_31, w_132_32, w_132_33, w_132_34, w_132_35, w_132_36, w_132_39, w_132_40, w_132_41, w_132_42, w_132_43, w_132_44, w_132_45, w_132_48, w_132_50, w_132_51, w_132_52, w_132_53, w_132_56, w_132_57, w_132_58, w_132_60, w_132_61, w_132_64, w_132_67, w_132_68, w_132_71, w_132_73, w_132_74, w_132_75, w_132_76, w_132_77, w_132_80, w_132_81, w_132_84, w_132_87, w_132_88, w_132_89, w_132_90, w_132_91, w_132_94, w_132_95, w_132_98, w_132_99, w_132_100, w_132_101, w_132_104, w_132_105, w_132_108, w_132_110, w_132_111, w_132_112, w_132_113, w_132_114, w_132_115, w_132_118, w_132_121, w_132_122, w_132_123, w_132_124, w_132_127, w_132_128, w_132_131, w_132_134, w_132_135, w_132_136, w_132_139, w_132_140, w_132_141, w_132_144, w_132_145, w_132_148, w_132_149, w_132_150, w_132_153, w_132_154, w_132_158, w_132_161, w_132_162, w_132_163, w_132_164, w_132_165, w_132_166, w_132_167, w_132_170, w_132_172, w_132_173, w_132_174, w_132_175, w_132_176, w_132_177, w_132_180, w_132_182, w_132_183, w_132_184, w_132_185, w_132_188, w_132_189, a0, a12, a24, a36, a48, a60, a72, a152, a232, a312, ic_clamp, inB_ic, er, e1, e2, e3, e4, true_and, m2r, b, if_false, f10, ic_pred, hq, eq0, not_false_eq_true, if_true]
        exact fin
  rw [← ic_z] at key
  have ea : W 7 r + (-1) = W 7 r - 1 := by rw [Int32.sub_eq_add_neg]
  by_cases b : W 2 r = 0
  · have ha : aheF W r = W 7 r - 1 := by unfold aheF; rw [if_pos b]
    rw [ha] at key
    simp (disch := first | assumption | omega) only [en_132, w_132_0, w_132_1, w_132_4, w_132_6, w_132_7, w_132_8, w_132_9, w_132_10, w_132_13, w_132_14, w_132_15, w_132_18, w_132_19, w_132_22, w_132_23, w_132_24, w_132_25, w_132_26, w_132_29, w_132_31, w_132_32, w_132_33, w_132_34, w_132_35, w_132_36, w_132_39, w_132_40, w_132_41, w_132_42, w_132_43, w_132_44, w_132_45, w_132_48, w_132_50, w_132_51, w_132_52, w_132_53, w_132_56, w_132_57, w_132_58, w_132_60, w_132_61, w_132_64, w_132_67, w_132_68, w_132_71, w_132_73, w_132_74, w_132_75, w_132_76, w_132_77, w_132_80, w_132_81, w_132_84, w_132_87, w_132_88, w_132_89, w_132_90, w_132_91, w_132_94, w_132_95, w_132_98, w_132_99, w_132_100, w_132_101, w_132_104, w_132_105, w_132_108, w_132_110, w_132_111, w_132_112, w_132_113, w_132_114, w_132_115, w_132_118, w_132_121, w_132_122, w_132_123, w_132_124, w_132_127, w_132_128, w_132_131, w_132_134, w_132_135, w_132_136, w_132_139, w_132_140, w_132_141, w_132_144, w_132_145, w_132_148, w_132_149, w_132_150, w_132_153, w_132_154, w_132_157, w_132_158, w_132_161, w_132_162, w_132_163, w_132_164, w_132_165, w_132_166, w_132_167, w_132_170, w_132_172, w_132_173, w_132_174, w_132_175, w_132_176, w_132_177, w_132_180, w_132_182, w_132_183, w_132_184, w_132_185, w_132_188, w_132_189, a0, a12, a24, a36, a48, a60, a72, a152, a232, a312, ic_clamp, inB_ic, er, e1, e2, e3, e4, true_and, m7 hm, m2 hm, b, if_true, ea, sv_d, sv_a, h23]
    exact key
  · have ha : aheF W r = W 7 r + 1 := by unfold aheF; rw [if_neg b]
    rw [ha] at key
    simp (disch := first | assumption | omega) only [en_132, w_132_0, w_132_1, w_132_4, w_132_6, w_132_7, w_132_8, w_132_9, w_132_10, w_132_13, w_132_14, w_132_15, w_132_18, w_132_19, w_132_22, w_132_23, w_132_24, w_132_25, w_132_26, w_132_29, w_132_31, w_132_32, w_132_33, w_132_34, w_132_35, w_132_36, w_132_39, w_132_40, w_132_41, w_132_42, w_132_43, w_132_44, w_132_45, w_132_48, w_132_50, w_132_51, w_132_52, w_132_53, w_132_56, w_132_57, w_132_58, w_132_60, w_132_61, w_132_64, w_132_67, w_132_68, w_132_71, w_132_73, w_132_74, w_132_75, w_132_76, w_132_77, w_132_80, w_132_81, w_132_84, w_132_87, w_132_88, w_132_89, w_132_90, w_132_91, w_132_94, w_132_95, w_132_98, w_132_99, w_132_100, w_132_101, w_132_104, w_132_105, w_132_108, w_132_110, w_132_111, w_132_112, w_132_113, w_132_114, w_132_115, w_132_118, w_132_121, w_132_122, w_132_123, w_132_124, w_132_127, w_132_128, w_132_131, w_132_134, w_132_135, w_132_136, w_132_139, w_132_140, w_132_141, w_132_144, w_132_145, w_132_148, w_132_149, w_132_150, w_132_153, w_132_154, w_132_157, w_132_158, w_132_161, w_132_162, w_132_163, w_132_164, w_132_165, w_132_166, w_132_167, w_132_170, w_132_172, w_132_173, w_132_174, w_132_175, w_132_176, w_132_177, w_132_180, w_132_182, w_132_183, w_132_184, w_132_185, w_132_188, w_132_189, a0, a12, a24, a36, a48, a60, a72, a152, a232, a312, ic_clamp, inB_ic, er, e1, e2, e3, e4, true_and, m7 hm, m2 hm, b, if_false, sv_d, sv_a, h23]
    exact key
end
