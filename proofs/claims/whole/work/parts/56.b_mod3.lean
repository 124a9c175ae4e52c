/-! BEST, OF THE MODEL: its entry; MINUTES, of both -/
section
variable {u : Nat × Nat} {L : Nat} {xs : Nat → Int32} {X : Nat → Nat → Int32} {Z : Nat → Nat → Int64} {K : List Value → AH → Prop} {V W : Nat → Nat → Int32}
theorem le4 {x : Int32} : (x ≤ 4) = (x < 5) := by
  rw [eq_iff_iff, Int32.le_iff_toInt_le, Int32.lt_iff_toInt_lt, show (4 : Int32).toInt = 4 from rfl, show (5 : Int32).toInt = 5 from rfl]
  omega
theorem m_isRun {r : Int32} (hm : MR X V) : Call 141 [.ref 97, .int r] (hX u L xs X Z) K ↔ K [.int (b2i (decide (¬ r < 0 ∧ ¬ V 1 0 ≤ r)))] (hX u L xs X Z) := by
  have h13 := hm.2.1
  simp only [en_141, w_141_0, w_141_1, w_141_4, w_141_5, w_141_6, w_141_9, w_141_12, w_141_13, w_141_16, w_141_17, zb0, zb1, true_and, h13]
  repeat' split
  all_goals simp_all only [b2i, nle, Bool.true_eq_false, reduceCtorEq, Classical.not_not, eq_self, Bool.decide_eq_true, imp_self, Bool.not_eq_true, decide_not, decide_true, decide_false, not_true_eq_false, not_false_eq_true, or_true, true_or, or_false, false_or, and_true, true_and, false_and, and_false, if_true, if_false, Bool.false_eq_true, reduceIte, Bool.or_true, Bool.true_or, Bool.or_false, Bool.false_or, Bool.and_true, Bool.true_and, Bool.and_false, Bool.false_and, Bool.not_true, Bool.not_false, ne_eq, iff_self, or_self, and_self]
/-- no exception is thrown -/
theorem MR_thr {v : Int32} (h : MR X V) : MR (sv X 97 0 v) V := MR_same (by rw [sv_i (by decide)]) (by rw [sv_i (by decide)]) (by rw [sv_i (by decide)]) (fun a h1 h2 => sv_a (by omega)) (fun i _ => by rw [sv_a (by decide)]) h
theorem Frb_thr {v : Int32} : Frb X (sv X 97 0 v) := ⟨fun a a1 a2 a3 a4 a5 => sv_a a1, fun j h _ _ => sv_i h⟩
theorem m_best_no {r lo hi : Int32} (hm : MR X V) (ho : VOK V) (h : bsB V r lo hi = false) : Call 142 [.ref 97, .int r, .int lo, .int hi] (hX u L xs X Z) K ↔ K [.int (-1)] (hX u L xs (sv X 97 0 0) Z) := by
  have hm' : MR (sv X 97 0 0) V := MR_thr hm
  have h23 := hm'.1
  simp (disch := first | assumption | omega) only [en_142, w_142_0, w_142_1, w_142_2, w_142_5, w_142_6, w_142_7, w_142_10, w_142_13, w_142_14, w_142_17, w_142_18, w_142_19, w_142_20, w_142_21, w_142_24, w_142_25, w_142_26, w_142_29, w_142_32, w_142_33, w_142_34, w_142_37, w_142_38, w_142_41, w_142_44, w_142_45, w_142_46, w_142_47, w_142_48, w_142_51, w_142_52, w_142_54, w_142_57, w_142_59, w_142_60, w_142_63, w_142_64, w_142_65, w_142_67, w_142_68, w_142_70, w_142_72, w_142_75, w_142_78, w_142_79, w_142_82, w_142_84, w_142_85, w_142_88, w_142_90, w_142_91, w_142_92, w_142_95, w_142_98, w_142_99, w_142_101, w_142_102, w_142_104, w_142_105, w_142_107, w_142_109, w_142_110, w_142_113, w_142_114, w_142_117, w_142_118, w_142_120, w_142_121, w_142_122, w_142_125, w_142_128, w_142_131, w_142_132, w_142_135, w_142_136, w_142_137, w_142_138, w_142_139, w_142_140, w_142_143, w_142_144, w_142_147, w_142_150, w_142_151, w_142_154, w_142_156, w_142_157, w_142_158, w_142_159, w_142_161, w_142_162, w_142_164, w_142_165, w_142_168, w_142_169, w_142_170, w_142_171, w_142_172, w_142_173, w_142_176, w_142_178, w_142_181, w_142_183, w_142_185, w_142_188, w_142_190, w_142_192, w_142_194, w_142_196, w_142_197, w_142_199, w_142_202, w_142_203, w_142_205, w_142_207, w_142_210, w_142_213, w_142_214, w_142_217, w_142_219, w_142_220, w_142_223, w_142_225, w_142_226, w_142_227, w_142_230, w_142_233, w_142_236, w_142_239, w_142_240, w_142_243, w_142_244, w_142_246, w_142_247, w_142_248, w_142_250, w_142_253, w_142_254, w_142_257, w_142_260, w_142_262, w_142_265, w_142_267, sv_d, m_isRun hm', ne_thr, app1, true_and, b2i_z]
  by_cases c1 : ¬ r < 0 ∧ ¬ V 1 0 ≤ r
  · obtain ⟨n, rfl, hn⟩ := ah_N ho c1.1 c1.2
    have h12 := ho.2.1
    have en : (n < 392) = True := eq_true (by omega)
    have e1 : decide (¬ ic n < 0 ∧ ¬ V 1 0 ≤ ic n) = true := decide_eq_true c1
    rw [e1]
    simp (disch := first | assumption | omega) only [Bool.true_eq_false, if_false, a0, a12, a24, a36, a48, a60, a72, a152, a232, a312, ic_clamp, inB_ic, en, true_and, m6 hm', h23, nle, Classical.not_not]
    by_cases c2 : V 6 n = 0
    · by_cases c3 : V 0 5 < lo
      · by_cases c4 : hi < lo
        · simp only [c2, c3, c4, not_true_eq_false, if_false, if_true]
        · by_cases c5 : 400 < hi
          · simp only [c2, c3, c4, c5, not_true_eq_false, if_false, if_true]
          · have c6 : ¬ hi - lo < 5 := by
              intro q
              unfold bsB ahB moB at h
              have g1 : ¬ 400 < lo := fun z => c5 (by
                rw [← Int32.not_le] at c4 ⊢
                intro y
                exact absurd (Int32.lt_of_lt_of_le z (Int32.not_lt.mp (fun w => c4 (Int32.not_le.mpr w)))) (Int32.not_lt.mpr y))
              have g2 : V 0 5 < hi := Int32.lt_of_lt_of_le c3 (Int32.not_lt.mp c4)
              rw [decide_eq_true (show ¬ ic n < 0 ∧ ¬ V 1 0 ≤ ic n ∧ V 6 (ic n).toNatClampNeg = 0 from ⟨c1.1, c1.2, by rw [ic_clamp (by omega)]; exact c2⟩), decide_eq_true (show V 0 5 < lo ∧ ¬ 400 < lo from ⟨c3, g1⟩), decide_eq_true (show V 0 5 < hi ∧ ¬ 400 < hi from ⟨g2, c5⟩), decide_eq_true (show ¬ hi < lo ∧ hi - lo < 5 from ⟨c4, q⟩)] at h
              exact absurd h (by decide)
            have c6' : 4 < hi - lo := by rw [← Int32.not_le, le4]; exact c6
            simp only [c2, c3, c4, c5, c6', not_true_eq_false, if_false, if_true]
      · simp only [c2, c3, not_true_eq_false, not_false_eq_true, if_false, if_true]
    · simp only [c2, not_false_eq_true, if_true]
  · have e1 : decide (¬ r < 0 ∧ ¬ V 1 0 ≤ r) = false := decide_eq_false c1
    simp only [e1, if_true]
set_option maxRecDepth 8000 in
theorem m_best {rn l h nw : Nat} {T : Nat → Nat → Nat → Int32} (hs : SI X) (hm : MR X V) (hw : WI (npN X) V) (hn : V 0 5 = ic nw) (hn6 : nw ≤ 600) (hrn : rn < nrN V) (h6 : V 6 rn = 0) (h1 : nw < l) (h2 : l ≤ h) (h3 : h ≤ 400) (h5 : h < l + 5) (hT : ∀ k, l ≤ k → k < h + 1 → EqR (T k) (tcs X (k - 1 - nw) (T5 rn (ic k) V))) (hK : ∀ X2, MR X2 V → Frb X X2 → X2 97 0 = 0 → X2 97 46 = (match itr (bstF X rn T) l (h + 1 - l) none with | none => X 97 46 | some (_, le) => ic le) → K [.int (bmI (itr (bstF X rn T) l (h + 1 - l) none))] (hX u L xs X2 Z)) : Call 142 [.ref 97, .int (ic rn), .int (ic l), .int (ic h)] (hX u L xs X Z) K := by
  have h12 := hw.1.2.1
  have hr12 : rn < 12 := by omega
  have er : (rn < 12) = True := eq_true hr12
  have en : (rn < 392) = True := eq_true (by omega)
  have f1 : Frb X (sv X 97 0 0) := Frb_thr
  have m1 : MR (sv X 97 0 0) V := MR_thr hm
  have t1 : (sv X 97 0 0) 97 0 = 0 := sv_s
  have l46 : (sv X 97 0 0) 97 46 = X 97 46 := sv_i (by decide)
  obtain ⟨s1, np1⟩ := Frb_SI f1 hs
  have lo1 := Frb_Lo f1
  have hin : decide (¬ ic rn < 0 ∧ ¬ V 1 0 ≤ ic rn) = true := by
    rw [decide_eq_true_eq, ic_neg (by omega), hw.1.1, ic_le (by omega) (by omega)]
    exact ⟨not_false, by omega⟩
  have c3 : (l ≤ nw) = False := eq_false (by omega)
  have c4 : (h < l) = False := eq_false (by omega)
  have c5 : (400 < h) = False := eq_false (by omega)
  have esub : ic h - ic l = ic (h - l) := by
    have : ic h = ic (h - l) + ic l := by rw [ic_add]; congr 1; omega
    rw [this]
    exact Int32.add_sub_cancel _ _
  have c6 : (h - l ≤ 4) = True := eq_true (by omega)
  have h23 := m1.1
  rw [hn] at h23
  have lfi : ∀ d V, fiN (sv X 97 0 0) rn d V = fiN X rn d V := by
    intro d
    induction d with
    | zero => intro V; rfl
    | succ d ih => intro V; unfold fiN; rw [lo_tic lo1, ih]
  have lbs : bstF (sv X 97 0 0) rn T = bstF X rn T := by funext m st; unfold bstF; rw [lfi]
  simp (disch := first | assumption | omega) only [en_142, w_142_0, w_142_1, w_142_2, w_142_5, w_142_6, w_142_7, w_142_10, w_142_13, w_142_14, w_142_17, w_142_18, w_142_19, w_142_20, w_142_21, w_142_24, w_142_25, w_142_26, w_142_29, w_142_32, w_142_33, w_142_34, w_142_37, w_142_38, w_142_41, w_142_44, w_142_45, w_142_46, w_142_47, w_142_48, w_142_51, w_142_52, w_142_53, w_142_54, w_142_57, w_142_59, w_142_60, w_142_63, w_142_64, w_142_65, w_142_67, w_142_68, w_142_72, w_142_75, w_142_78, w_142_79, w_142_82, w_142_84, w_142_85, w_142_88, w_142_90, w_142_91, w_142_92, w_142_95, w_142_98, w_142_99, w_142_101, w_142_102, w_142_104, w_142_105, w_142_107, w_142_109, w_142_110, w_142_113, w_142_114, w_142_117, w_142_118, w_142_120, w_142_121, w_142_122, w_142_125, w_142_128, w_142_131, w_142_132, w_142_135, w_142_136, w_142_137, w_142_138, w_142_139, w_142_140, w_142_143, w_142_144, w_142_147, w_142_150, w_142_151, w_142_154, w_142_156, w_142_157, w_142_158, w_142_159, w_142_161, w_142_162, w_142_164, w_142_165, w_142_168, w_142_169, w_142_170, w_142_171, w_142_172, w_142_173, w_142_176, w_142_178, w_142_181, w_142_183, w_142_185, w_142_188, w_142_190, w_142_192, w_142_194, w_142_196, w_142_197, w_142_199, w_142_202, w_142_203, w_142_205, w_142_207, w_142_210, w_142_213, w_142_214, w_142_217, w_142_219, w_142_220, w_142_223, w_142_225, w_142_226, w_142_227, w_142_230, w_142_233, w_142_236, w_142_239, w_142_240, w_142_243, w_142_244, w_142_246, w_142_247, w_142_248, w_142_250, w_142_253, w_142_254, w_142_257, w_142_260, w_142_262, w_142_265, w_142_267, sv_d]
  generalize hX1 : sv X 97 0 0 = X1 at f1 m1 s1 np1 lo1 h23 lbs t1 l46 ⊢
  simp (disch := first | assumption | omega) only [en_142, w_142_0, w_142_1, w_142_2, w_142_5, w_142_6, w_142_7, w_142_10, w_142_13, w_142_14, w_142_17, w_142_18, w_142_19, w_142_20, w_142_21, w_142_24, w_142_25, w_142_26, w_142_29, w_142_32, w_142_33, w_142_34, w_142_37, w_142_38, w_142_41, w_142_44, w_142_45, w_142_46, w_142_47, w_142_48, w_142_51, w_142_52, w_142_53, w_142_54, w_142_57, w_142_59, w_142_60, w_142_63, w_142_64, w_142_65, w_142_67, w_142_68, w_142_72, w_142_75, w_142_78, w_142_79, w_142_82, w_142_84, w_142_85, w_142_88, w_142_90, w_142_91, w_142_92, w_142_95, w_142_98, w_142_99, w_142_101, w_142_102, w_142_104, w_142_105, w_142_107, w_142_109, w_142_110, w_142_113, w_142_114, w_142_117, w_142_118, w_142_120, w_142_121, w_142_122, w_142_125, w_142_128, w_142_131, w_142_132, w_142_135, w_142_136, w_142_137, w_142_138, w_142_139, w_142_140, w_142_143, w_142_144, w_142_147, w_142_150, w_142_151, w_142_154, w_142_156, w_142_157, w_142_158, w_142_159, w_142_161, w_142_162, w_142_164, w_142_165, w_142_168, w_142_169, w_142_170, w_142_171, w_142_172, w_142_173, w_142_176, w_142_178, w_142_181, w_142_183, w_142_185, w_142_188, w_142_190, w_142_192, w_142_194, w_142_196, w_142_197, w_142_199, w_142_202, w_142_203, w_142_205, w_142_207, w_142_210, w_142_213, w_142_214, w_142_217, w_142_219, w_142_220, w_142_223, w_142_225, w_142_226, w_142_227, w_142_230, w_142_233, w_142_236, w_142_239, w_142_240, w_142_243, w_142_244, w_142_246, w_142_247, w_142_248, w_142_250, w_142_253, w_142_254, w_142_257, w_142_260, w_142_262, w_142_265, w_142_267, m_isRun m1, hin, b2i_t, ne_thr, app1, true_and, show ((1 : Int32) = 0) = False by decide, if_false, a0, a12, a24, a36, a48, a60, a72, a152, a232, a312, ic_clamp, inB_ic, en, er, m6 m1, h6, not_true_eq_false, h23, ic_le, c3, ic_lt, c4, show (400 : Int32) = ic 400 from rfl, c5, esub, show (4 : Int32) = ic 4 from rfl, c6, if_true, m5 m1]
  rw [ic_z]
  refine l_keep (X := X1) (ls := fun _ => []) 392 0 X1 (by omega) (fun _ _ => rfl) (fun i hi => by omega) (fun X2 l6 k1 k2 => ?_)
  rw [w_142_98, w_142_99, w_142_101, w_142_102, w_142_104, w_142_105]
  have t5id : T5 rn (V 5 rn) V = V := by
    funext a i
    unfold T5
    rw [sv_at]
    by_cases c : a = 5 ∧ i = rn
    · rw [if_pos c, c.1, c.2]
    · rw [if_neg c]
  have hb : BI X1 V rn X2 := by
    refine ⟨⟨fun a a1 a2 a3 a4 a5 => k1 a a4, fun j _ _ _ => by rw [k1 97 (by decide)]⟩, by rw [k1 97 (by decide)], ⟨by rw [k1 97 (by decide)], by rw [k1 97 (by decide)]⟩, fun i hi => by rw [k1 113 (by decide)], k2, V 5 rn, ?_⟩
    rw [t5id]
    exact MR_same (by rw [k1 97 (by decide)]) (by rw [k1 97 (by decide)]) (by rw [k1 97 (by decide)]) (fun a h1 h2 => k1 a (by omega)) (fun i hi => by rw [k1 113 (by decide)]) m1
  refine l_mbest (told := V 5 rn) (T := T) s1 (by rw [np1]; exact hw) hr12 h6 hn h23 h1 h3 (fun k q1 q2 => by rw [lo_tcs lo1]; exact hT k q1 q2) (h + 1 - l) l X2 none _ _ (by omega) (Nat.le_refl _) hb (fun b le q => by cases q) (fun X3 l8 l9 l10 hb3 => ?_)
  obtain ⟨d1, d2, ⟨d3, d3'⟩, d4, d5, y, d6⟩ := hb3
  have m3 : MR (sv X3 106 rn (V 5 rn)) V := by have := u5 (m := V 5 rn) d6 hr12; rwa [t5_t5, t5id] at this
  have f3 : Frb X (sv X3 106 rn (V 5 rn)) := Frb_tr (Frb_tr f1 d1) Frb_106
  have z0 : (sv X3 106 rn (V 5 rn)) 97 0 = 0 := by rw [sv_a (by decide), d3']; exact t1
  have z46 : (sv X3 106 rn (V 5 rn)) 97 46 = X 97 46 := by rw [sv_a (by decide), d3]; exact l46
  have Frb46 : ∀ {Y : Nat → Nat → Int32} {v : Int32}, Frb Y (sv Y 97 46 v) := fun {Y v} => ⟨fun a a1 a2 a3 a4 a5 => sv_a a1, fun j _ _ h => sv_i h⟩
  have MR46 : ∀ {Y : Nat → Nat → Int32} {v : Int32}, MR Y V → MR (sv Y 97 46 v) V := fun {Y v} h => MR_same (by rw [sv_i (by decide)]) (by rw [sv_i (by decide)]) (by rw [sv_i (by decide)]) (fun a h1 h2 => sv_a (by omega)) (fun i _ => by rw [sv_a (by decide)]) h
  rw [lbs]
  cases hst : itr (bstF X rn T) l (h + 1 - l) none with
  | none =>
    rw [hst] at hK
    have fin := hK _ (MR46 (v := X 97 46) m3) (Frb_tr f3 Frb46) (by rw [sv_i (by decide)]; exact z0) sv_s
    show WP 142 0 239 [.ref 97, .int (ic rn), .int (ic l), .int (ic h), .int (ic nw), .int (V 5 rn), .int (-1), .int 0, l8, l9, l10] [] (hX u L xs X3 Z) K
    simp (disch := first | assumption | omega) only [en_142, w_142_0, w_142_1, w_142_2, w_142_5, w_142_6, w_142_7, w_142_10, w_142_13, w_142_14, w_142_17, w_142_18, w_142_19, w_142_20, w_142_21, w_142_24, w_142_25, w_142_26, w_142_29, w_142_32, w_142_33, w_142_34, w_142_37, w_142_38, w_142_41, w_142_44, w_142_45, w_142_46, w_142_47, w_142_48, w_142_51, w_142_52, w_142_53, w_142_54, w_142_57, w_142_59, w_142_60, w_142_63, w_142_64, w_142_65, w_142_67, w_142_68, w_142_70, w_142_72, w_142_75, w_142_78, w_142_79, w_142_82, w_142_84, w_142_85, w_142_88, w_142_90, w_142_91, w_142_92, w_142_95, w_142_98, w_142_99, w_142_101, w_142_102, w_142_104, w_142_105, w_142_109, w_142_110, w_142_113, w_142_114, w_142_117, w_142_118, w_142_120, w_142_121, w_142_122, w_142_125, w_142_128, w_142_131, w_142_132, w_142_135, w_142_136, w_142_137, w_142_138, w_142_139, w_142_140, w_142_143, w_142_144, w_142_147, w_142_150, w_142_151, w_142_154, w_142_156, w_142_157, w_142_158, w_142_159, w_142_161, w_142_162, w_142_164, w_142_165, w_142_168, w_142_169, w_142_170, w_142_171, w_142_172, w_142_173, w_142_176, w_142_178, w_142_181, w_142_183, w_142_185, w_142_188, w_142_190, w_142_192, w_142_194, w_142_196, w_142_197, w_142_199, w_142_202, w_142_203, w_142_205, w_142_207, w_142_210, w_142_213, w_142_214, w_142_217, w_142_219, w_142_220, w_142_223, w_142_225, w_142_226, w_142_227, w_142_230, w_142_233, w_142_236, w_142_239, w_142_240, w_142_243, w_142_244, w_142_246, w_142_247, w_142_248, w_142_250, w_142_253, w_142_254, w_142_257, w_142_260, w_142_262, w_142_265, w_142_267, a0, a12, a24, a36, a48, a60, a72, a152, a232, a312, ic_clamp, inB_ic, er, true_and, sv_d, show ((0 : Int32) ≤ -1) = False by decide, if_false, z46]
    exact fin
  | some q =>
    obtain ⟨b, le⟩ := q
    rw [hst] at hK
    have hr := bst_rng (X := X) (r := rn) (T := T) (h + 1 - l) l none (fun b le e => by cases e) (by omega) b le hst
    have fin := hK _ (MR46 (v := ic le) m3) (Frb_tr f3 Frb46) (by rw [sv_i (by decide)]; exact z0) sv_s
    show WP 142 0 239 [.ref 97, .int (ic rn), .int (ic l), .int (ic h), .int (ic nw), .int (V 5 rn), .int (ic b), .int (ic le), l8, l9, l10] [] (hX u L xs X3 Z) K
    have e0 : ((0 : Int32) ≤ ic b) = True := by rw [ic_z, ic_le (by omega) (by omega)]; exact eq_true (by omega)
    simp (disch := first | assumption | omega) only [en_142, w_142_0, w_142_1, w_142_2, w_142_5, w_142_6, w_142_7, w_142_10, w_142_13, w_142_14, w_142_17, w_142_18, w_142_19, w_142_20, w_142_21, w_142_24, w_142_25, w_142_26, w_142_29, w_142_32, w_142_33, w_142_34, w_142_37, w_142_38, w_142_41, w_142_44, w_142_45, w_142_46, w_142_47, w_142_48, w_142_51, w_142_52, w_142_53, w_142_54, w_142_57, w_142_59, w_142_60, w_142_63, w_142_64, w_142_65, w_142_67, w_142_68, w_142_70, w_142_72, w_142_75, w_142_78, w_142_79, w_142_82, w_142_84, w_142_85, w_142_88, w_142_90, w_142_91, w_142_92, w_142_95, w_142_98, w_142_99, w_142_101, w_142_102, w_142_104, w_142_105, w_142_109, w_142_110, w_142_113, w_142_114, w_142_117, w_142_118, w_142_120, w_142_121, w_142_122, w_142_125, w_142_128, w_142_131, w_142_132, w_142_135, w_142_136, w_142_137, w_142_138, w_142_139, w_142_140, w_142_143, w_142_144, w_142_147, w_142_150, w_142_151, w_142_154, w_142_156, w_142_157, w_142_158, w_142_159, w_142_161, w_142_162, w_142_164, w_142_165, w_142_168, w_142_169, w_142_170, w_142_171, w_142_172, w_142_173, w_142_176, w_142_178, w_142_181, w_142_183, w_142_185, w_142_188, w_142_190, w_142_192, w_142_194, w_142_196, w_142_197, w_142_199, w_142_202, w_142_203, w_142_205, w_142_207, w_142_210, w_142_213, w_142_214, w_142_217, w_142_219, w_142_220, w_142_223, w_142_225, w_142_226, w_142_227, w_142_230, w_142_233, w_142_236, w_142_239, w_142_240, w_142_243, w_142_244, w_142_246, w_142_247, w_142_248, w_142_250, w_142_253, w_142_254, w_142_257, w_142_260, w_142_262, w_142_265, w_142_267, a0, a12, a24, a36, a48, a60, a72, a152, a232, a312, ic_clamp, inB_ic, er, true_and, sv_d, e0, if_true]
    exact fin
theorem c_within {v lo hi : Int32} {h : AH} : Call 92 [.int v, .int lo, .int hi] h K ↔ K [.int (b2i (decide (¬ v < lo ∧ ¬ hi < v)))] h := by
  simp only [en_92, w_92_0, w_92_1, w_92_2, w_92_5, w_92_6, w_92_7, w_92_10, w_92_11, w_92_14, w_92_15, zb0, zb1, true_and]
  repeat' split
  all_goals simp_all only [b2i, nle, Bool.true_eq_false, reduceCtorEq, Classical.not_not, eq_self, Bool.decide_eq_true, imp_self, Bool.not_eq_true, decide_not, decide_true, decide_false, not_true_eq_false, not_false_eq_true, or_true, true_or, or_false, false_or, and_true, true_and, false_and, and_false, if_true, if_false, Bool.false_eq_true, reduceIte, Bool.or_true, Bool.true_or, Bool.or_false, Bool.false_or, Bool.and_true, Bool.true_and, Bool.and_false, Bool.false_and, Bool.not_true, Bool.not_false, ne_eq, iff_self, or_self, and_self]
def mnB (V : Nat → Nat → Int32) (n : Int32) : Bool := decide (¬ n < 0 ∧ ¬ 200 < n ∧ ¬ 600 < V 0 5 + n)
theorem c_minutes_no {n : Int32} (h : mnB (wz X 25) n = false) : Call 83 [.ref 0, .int n] (hX u L xs X Z) K ↔ K [.int (-1)] (hX u L xs X Z) := by
  have e : wz X 25 0 5 = X 25 5 := by rw [wz_at (by decide)]
  unfold mnB at h
  rw [e] at h
  simp only [decide_eq_false_iff_not] at h
  simp only [en_83, w_83_0, w_83_1, w_83_2, w_83_5, w_83_8, w_83_11, w_83_12, w_83_15, w_83_18, w_83_19, w_83_20, w_83_23, w_83_26, w_83_27, w_83_29, w_83_32, w_83_33, w_83_36, w_83_39, w_83_40, w_83_41, w_83_44, w_83_45, w_83_48, w_83_51, c_within, ne_thr, app1, true_and, b2i_z]
  by_cases c : ¬ n < 0 ∧ ¬ 200 < n
  · have c3 : 600 < X 25 5 + n := Classical.not_not.mp (fun q => h ⟨c.1, c.2, q⟩)
    have e1 : decide (¬ n < 0 ∧ ¬ 200 < n) = true := decide_eq_true c
    simp only [e1, Bool.true_eq_false, if_false, nle, c3, not_true_eq_false]
    try simp
  · have e1 : decide (¬ n < 0 ∧ ¬ 200 < n) = false := decide_eq_false c
    simp only [e1, if_true]
theorem mn_N {nw : Nat} (hn : V 0 5 = ic nw) (hn6 : nw ≤ 600) {n : Int32} (h : mnB V n = true) : ∃ k, n = ic k ∧ k ≤ 200 ∧ nw + k ≤ 600 := by
  unfold mnB at h
  simp only [decide_eq_true_eq] at h
  obtain ⟨a, b, c⟩ := h
  obtain ⟨q1, q2⟩ := ic_of a
  rw [q1, show (200 : Int32) = ic 200 from rfl, ic_lt (by omega) q2] at b
  rw [q1, hn, ic_add, show (600 : Int32) = ic 600 from rfl, ic_lt (by omega) (by omega)] at c
  exact ⟨_, q1, by omega, by omega⟩
theorem c_minutes {k nw : Nat} (hx : RdOK X) (hw : WI (npN X) (wz X 25)) (hn : wz X 25 0 5 = ic nw) (hk : k ≤ 200) (hnk : nw + k ≤ 600) : Call 83 [.ref 0, .int (ic k)] (hX u L xs X Z) K ↔ K [.int (ic (nw + k))] (hX u L xs (pw X 25 (tcs X k (wz X 25))) Z) := by
  have e : X 25 5 = ic nw := by rw [← hn, wz_at (by decide)]
  have e1 : decide (¬ ic k < 0 ∧ ¬ 200 < ic k) = true := by
    rw [decide_eq_true_eq, ic_neg (by omega), show (200 : Int32) = ic 200 from rfl, ic_lt (by omega) (by omega)]
    exact ⟨not_false, by omega⟩
  have e2 : (nw + k ≤ 600) = True := eq_true hnk
  simp (disch := first | assumption | omega) only [en_83, w_83_0, w_83_1, w_83_2, w_83_5, w_83_8, w_83_11, w_83_12, w_83_15, w_83_18, w_83_19, w_83_20, w_83_23, w_83_26, w_83_27, w_83_29, w_83_32, w_83_33, w_83_36, w_83_39, w_83_40, w_83_41, w_83_44, w_83_45, w_83_48, w_83_51, c_within, ne_thr, app1, true_and, e1, b2i_t, show ((1 : Int32) = 0) = False by decide, if_false, e, ic_add, show (600 : Int32) = ic 600 from rfl, ic_le, e2, if_true]
  rw [w_83_28, w_83_29, w_83_32, w_83_33, w_83_36, w_83_39, w_83_40, e, ic_add, w_83_41, hX_W (w := 25)]
  rw [c_goOn (Or.inl rfl) hx hw.1 hw.2.1 (la := nw + k) (nw := nw) (by omega) hn (by omega), show nw + k - nw = k by omega]
  simp only [ne_thr0, app0, true_and]
  unfold hW
  have e5 : (pw X 25 (tcs X k (wz X 25))) 25 5 = ic (nw + k) := by
    unfold pw
    rw [if_pos (by omega)]
    exact tcs_now k _ hn
  simp (disch := first | assumption | omega) only [en_83, w_83_0, w_83_1, w_83_2, w_83_5, w_83_8, w_83_11, w_83_12, w_83_15, w_83_18, w_83_19, w_83_20, w_83_23, w_83_26, w_83_27, w_83_29, w_83_32, w_83_33, w_83_36, w_83_39, w_83_40, w_83_41, w_83_44, w_83_45, w_83_48, w_83_51, e5]
theorem m_minutes_no {n : Int32} (hm : MR X V) (h : mnB V n = false) : Call 140 [.ref 97, .int n] (hX u L xs X Z) K ↔ K [.int (-1)] (hX u L xs (sv X 97 0 0) Z) := by
  have hm' : MR (sv X 97 0 0) V := MR_thr hm
  have h23 := hm'.1
  unfold mnB at h
  simp only [decide_eq_false_iff_not] at h
  simp only [en_140, w_140_0, w_140_1, w_140_2, w_140_5, w_140_6, w_140_9, w_140_10, w_140_13, w_140_16, w_140_17, w_140_20, w_140_21, w_140_22, w_140_25, w_140_28, w_140_29, w_140_31, w_140_33, w_140_34, w_140_37, w_140_38, w_140_41, w_140_44, w_140_47, w_140_48, w_140_51, sv_d, h23, nle]
  by_cases c1 : n < 0
  · simp only [c1, if_true]
  · by_cases c2 : 200 < n
    · simp only [c1, c2, if_true, if_false]
    · have c3 : 600 < V 0 5 + n := Classical.not_not.mp (fun q => h ⟨c1, c2, q⟩)
      simp only [c1, c2, c3, if_true, if_false, not_true_eq_false]
theorem l_mmin {n : Nat} (hn : n ≤ 200) : ∀ d k X V, SI X → MR X V → WI (npN X) V → k + d = n → (∀ X', MR X' (tcs X d V) → WI (npN X) (tcs X d V) → Fr X X' → K [.int ((tcs X d V) 0 5)] (hX u L xs X' Z)) → WP 140 0 32 [.ref 97, .int (ic n), .int (ic k)] [] (hX u L xs X Z) K := by
  intro d
  induction d with
  | zero =>
    intro k X V hs hm hw hk hK
    have e : (n ≤ k) = True := eq_true (by omega)
    have h23 := hm.1
    rw [w_140_32]
    simp (disch := first | assumption | omega) only [en_140, w_140_0, w_140_1, w_140_2, w_140_5, w_140_6, w_140_9, w_140_10, w_140_13, w_140_16, w_140_17, w_140_20, w_140_21, w_140_22, w_140_25, w_140_28, w_140_29, w_140_30, w_140_31, w_140_33, w_140_34, w_140_38, w_140_41, w_140_44, w_140_47, w_140_48, w_140_51, ic_le, e, if_true, h23]
    exact hK X hm hw Fr_refl
  | succ d ih =>
    intro k X V hs hm hw hk hK
    have e : (n ≤ k) = False := eq_false (by omega)
    rw [w_140_32]
    simp (disch := first | assumption | omega) only [en_140, w_140_0, w_140_1, w_140_2, w_140_5, w_140_6, w_140_9, w_140_10, w_140_13, w_140_16, w_140_17, w_140_20, w_140_21, w_140_22, w_140_25, w_140_28, w_140_29, w_140_30, w_140_31, w_140_33, w_140_34, w_140_38, w_140_41, w_140_44, w_140_47, w_140_48, w_140_51, ic_le, e, if_false]
    rw [w_140_37, w_140_38]
    refine m_minute hs hm hw (fun X' hm' hw' hf => ?_)
    simp only [ne_thr0, app0, true_and]
    rw [w_140_41, ic_add1, w_140_44]
    obtain ⟨hs', np'⟩ := Fr_SI hf hs
    have lo := Fr_Lo hf
    refine ih (k + 1) X' (ticF X V) hs' hm' (by rw [np']; exact hw') (by omega) (fun X2 h1 h2 h3 => ?_)
    rw [lo_tcs lo] at h1 h2 ⊢
    rw [np'] at h2
    exact hK X2 h1 h2 (Fr_tr hf h3)
theorem m_minutes {k nw : Nat} (hs : SI X) (hm : MR X V) (hw : WI (npN X) V) (hn : V 0 5 = ic nw) (hk : k ≤ 200) (hnk : nw + k ≤ 600) (hK : ∀ X', MR X' (tcs X k V) → WI (npN X) (tcs X k V) → Fr (sv X 97 0 0) X' → K [.int (ic (nw + k))] (hX u L xs X' Z)) : Call 140 [.ref 97, .int (ic k)] (hX u L xs X Z) K := by
  have hm' : MR (sv X 97 0 0) V := MR_thr hm
  have h23 := hm'.1
  rw [hn] at h23
  obtain ⟨hs', np'⟩ := Frb_SI (Frb_thr (v := 0)) hs
  have lo := Frb_Lo (Frb_thr (X := X) (v := 0))
  have e1 : (200 < k) = False := eq_false (by omega)
  have e2 : (600 < nw + k) = False := eq_false (by omega)
  simp (disch := first | assumption | omega) only [en_140, w_140_0, w_140_1, w_140_2, w_140_5, w_140_6, w_140_9, w_140_10, w_140_13, w_140_16, w_140_17, w_140_20, w_140_21, w_140_22, w_140_25, w_140_28, w_140_29, w_140_30, w_140_31, w_140_33, w_140_34, w_140_37, w_140_38, w_140_41, w_140_44, w_140_47, w_140_48, w_140_51, sv_d, h23, ic_neg, if_false, show (200 : Int32) = ic 200 from rfl, ic_lt, e1, ic_add, show (600 : Int32) = ic 600 from rfl, ic_le, show (nw + k ≤ 600) = True from eq_true hnk, e2, if_true]
  generalize sv X 97 0 0 = X1 at hm' hs' np' lo hK ⊢
  rw [ic_z]
  refine l_mmin (n := k) hk k 0 _ V hs' hm' (by rw [np']; exact hw) (by omega) (fun X' h1 h2 h3 => ?_)
  rw [lo_tcs lo] at h1 h2 ⊢
  rw [np'] at h2
  rw [tcs_now k V hn]
  exact hK X' h1 h2 h3
end
