/-! BEST, OF THE MODEL: as a whole -/
section
variable {u : Nat × Nat} {L : Nat} {xs : Nat → Int32} {X : Nat → Nat → Int32} {Z : Nat → Nat → Int64} {K : List Value → AH → Prop} {V W : Nat → Nat → Int32}
def Frb (X X' : Nat → Nat → Int32) : Prop := (∀ a, a ≠ 97 → a ≠ 106 → a ≠ 113 → a ≠ 114 → a ≠ 129 → X' a = X a) ∧ ∀ j, j ≠ 0 → j ≠ 23 → j ≠ 46 → X' 97 j = X 97 j
theorem Frb_refl : Frb X X := ⟨fun _ _ _ _ _ _ => rfl, fun _ _ _ _ => rfl⟩
theorem Frb_tr {X' X2 : Nat → Nat → Int32} (h : Frb X X') (g : Frb X' X2) : Frb X X2 := ⟨fun a a1 a2 a3 a4 a5 => (g.1 a a1 a2 a3 a4 a5).trans (h.1 a a1 a2 a3 a4 a5), fun j h0 h1 h2 => (g.2 j h0 h1 h2).trans (h.2 j h0 h1 h2)⟩
theorem Fr_Frb {X' : Nat → Nat → Int32} (h : Fr X X') : Frb X X' := ⟨fun a a1 a2 a3 a4 a5 => h.1 a a1 a3 a5, fun j h0 h1 h2 => h.2 j h1⟩
theorem Frb_Lo {X' : Nat → Nat → Int32} (h : Frb X X') : Lo X X' := fun a ha => h.1 a (by omega) (by omega) (by omega) (by omega) (by omega)
theorem Frb_SI {X' : Nat → Nat → Int32} (h : Frb X X') (g : SI X) : SI X' ∧ npN X' = npN X := by
  have lo := Frb_Lo h
  have c := fun a a1 a2 a3 a4 a5 => h.1 a a1 a2 a3 a4 a5
  obtain ⟨g1, g2, g3⟩ := g
  refine ⟨⟨by rw [lo_Rd lo]; exact g1, ?_, ?_⟩, lo_np lo⟩
  · unfold RR
    rw [h.2 10 (by decide) (by decide) (by decide), h.2 28 (by decide) (by decide) (by decide), lo 1 (by decide), lo 2 (by decide), lo 3 (by decide), lo 4 (by decide), lo 5 (by decide), lo 6 (by decide), lo 7 (by decide), lo 8 (by decide), c 103 (by decide) (by decide) (by decide) (by decide) (by decide), c 104 (by decide) (by decide) (by decide) (by decide) (by decide), c 115 (by decide) (by decide) (by decide) (by decide) (by decide), c 116 (by decide) (by decide) (by decide) (by decide) (by decide), c 117 (by decide) (by decide) (by decide) (by decide) (by decide), c 118 (by decide) (by decide) (by decide) (by decide) (by decide), c 119 (by decide) (by decide) (by decide) (by decide) (by decide)]
    exact g2
  · have ek : kdF X' = kdF X := by funext i; unfold kdF; rw [lo 15 (by decide)]
    have en : nuF X' = nuF X := by funext i; unfold nuF; rw [lo 15 (by decide)]
    unfold TX cdOK dpOK at g3 ⊢
    rw [lo_ln lo, lo_st lo, lo_en lo, ek, en, h.2 38 (by decide) (by decide) (by decide), lo 11 (by decide), lo 12 (by decide), lo 13 (by decide), c 120 (by decide) (by decide) (by decide) (by decide) (by decide), c 121 (by decide) (by decide) (by decide) (by decide) (by decide), c 122 (by decide) (by decide) (by decide) (by decide) (by decide), c 123 (by decide) (by decide) (by decide) (by decide) (by decide), c 124 (by decide) (by decide) (by decide) (by decide) (by decide), c 125 (by decide) (by decide) (by decide) (by decide) (by decide)]
    exact g3
def BI (X V : Nat → Nat → Int32) (r : Nat) (X' : Nat → Nat → Int32) : Prop := Frb X X' ∧ X' 97 23 = X 97 23 ∧ (X' 97 46 = X 97 46 ∧ X' 97 0 = X 97 0) ∧ (∀ i, i < 392 → X' 113 i = X 113 i) ∧ (∀ i, i < 392 → X' 114 i = X 113 i) ∧ ∃ y, MR X' (T5 r y V)
def lsI (st : Option (Nat × Nat)) : Int32 := match st with | none => 0 | some (_, l) => ic l
theorem Frb_106 {i : Nat} {v : Int32} : Frb X (sv X 106 i v) := ⟨fun a a1 a2 a3 a4 a5 => sv_a a2, fun j _ _ _ => by rw [sv_a (by decide)]⟩
theorem Frb_23 {v : Int32} : Frb X (sv X 97 23 v) := ⟨fun a a1 a2 a3 a4 a5 => sv_a a1, fun j _ h _ => sv_i h⟩
set_option maxRecDepth 8000 in
set_option maxHeartbeats 1000000 in
theorem l_mbest {r nw lo hi : Nat} {told : Int32} {T : Nat → Nat → Nat → Int32} (hs : SI X) (hw : WI (npN X) V) (hr : r < 12) (h6 : V 6 r = 0) (hnw : V 0 5 = ic nw) (hx23 : X 97 23 = ic nw) (hlo : nw < lo) (h4 : hi ≤ 400) (hT : ∀ k, lo ≤ k → k < hi + 1 → EqR (T k) (tcs X (k - 1 - nw) (T5 r (ic k) V))) : ∀ d m X' st l9 l10, m + d = hi + 1 → lo ≤ m → BI X V r X' → (∀ b le, st = some (b, le) → b ≤ 400 ∧ le ≤ 600) → (∀ X2 l8 l9 l10, BI X V r X2 → WP 142 0 239 [.ref 97, .int (ic r), .int (ic lo), .int (ic hi), .int (ic nw), .int told, .int (bmI (itr (bstF X r T) m d st)), .int (lsI (itr (bstF X r T) m d st)), l8, l9, l10] [] (hX u L xs X2 Z) K) → WP 142 0 107 [.ref 97, .int (ic r), .int (ic lo), .int (ic hi), .int (ic nw), .int told, .int (bmI st), .int (lsI st), .int (ic m), l9, l10] [] (hX u L xs X' Z) K := by
  have er : (r < 12) = True := eq_true hr
  intro d
  induction d with
  | zero =>
    intro m X' st l9 l10 hm hlm hb hst hK
    have e : (hi < m) = True := eq_true (by omega)
    rw [w_142_107]
    simp (disch := first | assumption | omega) only [en_142, w_142_0, w_142_1, w_142_2, w_142_5, w_142_6, w_142_7, w_142_10, w_142_13, w_142_14, w_142_17, w_142_18, w_142_19, w_142_20, w_142_21, w_142_24, w_142_25, w_142_26, w_142_29, w_142_32, w_142_33, w_142_34, w_142_37, w_142_38, w_142_41, w_142_44, w_142_45, w_142_46, w_142_47, w_142_48, w_142_51, w_142_52, w_142_53, w_142_54, w_142_57, w_142_59, w_142_60, w_142_63, w_142_64, w_142_65, w_142_67, w_142_68, w_142_70, w_142_72, w_142_75, w_142_78, w_142_79, w_142_82, w_142_84, w_142_85, w_142_88, w_142_90, w_142_91, w_142_92, w_142_95, w_142_98, w_142_99, w_142_101, w_142_102, w_142_104, w_142_105, w_142_109, w_142_110, w_142_114, w_142_117, w_142_118, w_142_120, w_142_121, w_142_122, w_142_125, w_142_128, w_142_131, w_142_132, w_142_135, w_142_136, w_142_137, w_142_138, w_142_139, w_142_140, w_142_143, w_142_144, w_142_147, w_142_150, w_142_151, w_142_154, w_142_156, w_142_157, w_142_158, w_142_159, w_142_161, w_142_162, w_142_164, w_142_165, w_142_168, w_142_169, w_142_170, w_142_171, w_142_172, w_142_173, w_142_176, w_142_178, w_142_181, w_142_183, w_142_185, w_142_188, w_142_190, w_142_192, w_142_194, w_142_196, w_142_197, w_142_199, w_142_202, w_142_203, w_142_205, w_142_207, w_142_210, w_142_213, w_142_214, w_142_217, w_142_219, w_142_220, w_142_223, w_142_225, w_142_226, w_142_227, w_142_230, w_142_233, w_142_236, w_142_240, w_142_243, w_142_244, w_142_246, w_142_247, w_142_248, w_142_250, w_142_253, w_142_254, w_142_257, w_142_260, w_142_262, w_142_265, w_142_267, ic_lt, e, if_true]
    exact hK X' _ _ _ hb
  | succ d ih =>
    intro m X' st l9 l10 hm hlm hb hst hK
    obtain ⟨b1, b2, b2', b3, b4, y, b5⟩ := hb
    have e : (hi < m) = False := eq_false (by omega)
    rw [w_142_107]
    simp (disch := first | assumption | omega) only [en_142, w_142_0, w_142_1, w_142_2, w_142_5, w_142_6, w_142_7, w_142_10, w_142_13, w_142_14, w_142_17, w_142_18, w_142_19, w_142_20, w_142_21, w_142_24, w_142_25, w_142_26, w_142_29, w_142_32, w_142_33, w_142_34, w_142_37, w_142_38, w_142_41, w_142_44, w_142_45, w_142_46, w_142_47, w_142_48, w_142_51, w_142_52, w_142_53, w_142_54, w_142_57, w_142_59, w_142_60, w_142_63, w_142_64, w_142_65, w_142_67, w_142_68, w_142_70, w_142_72, w_142_75, w_142_78, w_142_79, w_142_82, w_142_84, w_142_85, w_142_88, w_142_90, w_142_91, w_142_92, w_142_95, w_142_98, w_142_99, w_142_101, w_142_102, w_142_104, w_142_105, w_142_109, w_142_110, w_142_113, w_142_114, w_142_117, w_142_118, w_142_120, w_142_122, w_142_125, w_142_128, w_142_131, w_142_132, w_142_135, w_142_136, w_142_137, w_142_138, w_142_139, w_142_140, w_142_143, w_142_144, w_142_147, w_142_150, w_142_151, w_142_154, w_142_156, w_142_157, w_142_158, w_142_159, w_142_161, w_142_162, w_142_164, w_142_165, w_142_168, w_142_169, w_142_170, w_142_171, w_142_172, w_142_173, w_142_176, w_142_178, w_142_181, w_142_183, w_142_185, w_142_188, w_142_190, w_142_192, w_142_194, w_142_196, w_142_197, w_142_199, w_142_202, w_142_203, w_142_205, w_142_207, w_142_210, w_142_213, w_142_214, w_142_217, w_142_219, w_142_220, w_142_223, w_142_225, w_142_226, w_142_227, w_142_230, w_142_233, w_142_236, w_142_239, w_142_240, w_142_243, w_142_244, w_142_246, w_142_247, w_142_248, w_142_250, w_142_253, w_142_254, w_142_257, w_142_260, w_142_262, w_142_265, w_142_267, ic_lt, e, if_false, inB_ic, ic_clamp, er, true_and, sv_d]
    have m1 : MR (sv X' 106 r (ic m)) (T5 r (ic m) V) := by have := u5 (m := ic m) b5 hr; rwa [t5_t5] at this
    have f1 : Frb X (sv X' 106 r (ic m)) := Frb_tr b1 Frb_106
    obtain ⟨s1, np1⟩ := Frb_SI f1 hs
    have lo1 := Frb_Lo f1
    generalize hX1 : sv X' 106 r (ic m) = X1 at m1 f1 s1 np1 lo1 ⊢
    have w1 : WI (npN X1) (T5 r (ic m) V) := by rw [np1]; exact t5_WI hw
    have tc := fun e h => t5_tcs (X := X) (r := r) (a := nw) (b := m) (c := m) (by omega) (by omega) e (T5 r (ic m) V) (by rw [t5_a (by decide)]; exact h6) (by rw [t5_a (by decide)]; exact hnw) sv_s h h
    -- up to the eve
    refine l_tick_m (r := r) (c := 0) hr ⟨_, _, _, _, _, _, _, _, _, rfl⟩ (m - 1 - nw) X1 (T5 r (ic m) V) nw s1 m1 w1 (by rw [t5_a (by decide)]; exact hnw) (by omega) (fun e he => ?_) (fun X2 m2 f2 => ?_)
    · rw [lo_tcs lo1, (tc e (by omega)).2]
      decide
    rw [lo_tcs lo1] at m2
    have q := hT m hlm (by omega)
    have m3 := EqR_MR q m2
    have f12 := Frb_tr f1 (Fr_Frb f2)
    obtain ⟨s2, np2⟩ := Frb_SI f12 hs
    have lo2 := Frb_Lo f12
    have wE : WI (npN X) (tcs X (m - 1 - nw) (T5 r (ic m) V)) := tcs_WI hs.1 _ _ (t5_WI hw)
    have w2 : WI (npN X2) (T m) := by rw [np2]; exact EqR_WI q wE
    have n2 : T m 0 5 = ic (m - 1) := by
      rw [q.1, tcs_now (a := nw) _ _ (by rw [t5_a (by decide)]; exact hnw)]
      congr 1
      omega
    -- until it is over
    refine l_run_m (r := r) hr ⟨_, _, _, _, _, _, _, _, _, rfl⟩ (601 - m) X2 (T m) s2 m3 w2 (by rw [n2]; congr 1; omega) (by omega) (fun X3 m4 f3 => ?_)
    have lr : ∀ d V, runF X2 r d V = runF X r d V := by
      intro d
      induction d with
      | zero => intro V; rfl
      | succ d ih => intro V; unfold runF; rw [lo_tic lo2, ih]
    rw [lr] at m4
    have fF : Fr X1 X3 := Fr_tr f2 f3
    have rf := run_fi (X := X) (r := r) (601 - m) (T m) (by rw [EqR_f q (by decide) (by decide) hr, (tc (m - 1 - nw) (by omega)).2]; decide)
    -- the world is put back
    have back : ∀ (fnd ls : Int32) l9 l10 st', fnd = bmI st' → ls = lsI st' → st' = bstF X r T m st → (∀ b le, st' = some (b, le) → b ≤ 400 ∧ le ≤ 600) → WP 142 0 196 [.ref 97, .int (ic r), .int (ic lo), .int (ic hi), .int (ic nw), .int told, .int fnd, .int ls, .int (ic m), l9, l10] [] (hX u L xs X3 Z) K := by
      intro fnd ls l9 l10 st' e1 e2 e3 hst'
      rw [w_142_196, w_142_197, w_142_199, w_142_202, w_142_203, sv_d, ic_z]
      refine l_back (Y := sv X3 97 23 (ic nw)) 392 0 _ (by omega) (fun _ _ => rfl) (fun i hi => by omega) (fun X4 l10' g1 g2 => ?_)
      rw [w_142_233, ic_add1, w_142_236, e1, e2, e3]
      have k114 : ∀ i, i < 392 → X3 114 i = X 113 i := fun i hi => by
        rw [fF.1 114 (by decide) (by decide) (by decide), ← hX1, sv_a (by decide)]
        exact b4 i hi
      have x1 : ∀ i, i < 392 → X1 113 i = X 113 i := fun i hi => by rw [← hX1, sv_a (by decide)]; exact b3 i hi
      have x123 : X1 97 23 = ic nw := by rw [← hX1, sv_a (by decide), b2]; exact hx23
      have r4 : ∀ i, i < 392 → X4 113 i = X 113 i := fun i hi => by rw [g2 i hi, sv_a (by decide)]; exact k114 i hi
      refine ih (m + 1) X4 _ _ _ (by omega) (by omega) ⟨⟨fun a a1 a2 a3 a4 a5 => ?_, fun j h0 h1 h2 => ?_⟩, ?_, ?_, r4, fun i hi => ?_, ic m, ?_⟩ ?_ (fun X5 l8 l9 l10 h1 => ?_)
      · rw [g1 a a3, sv_a a1, fF.1 a a1 a3 a5]
        exact f1.1 a a1 a2 a3 a4 a5
      · rw [g1 97 (by decide), sv_i h1, fF.2 j h1]
        exact f1.2 j h0 h1 h2
      · rw [g1 97 (by decide), sv_s, hx23]
      · constructor
        · rw [g1 97 (by decide), sv_i (by decide), fF.2 46 (by decide), ← hX1, sv_a (by decide)]
          exact b2'.1
        · rw [g1 97 (by decide), sv_i (by decide), fF.2 0 (by decide), ← hX1, sv_a (by decide)]
          exact b2'.2
      · rw [g1 114 (by decide), sv_a (by decide)]
        exact k114 i hi
      · refine MR_same (X := X1) ?_ ?_ ?_ (fun a a1 a2 => ?_) (fun i hi => ?_) m1
        · rw [g1 97 (by decide), sv_s, x123]
        · rw [g1 97 (by decide), sv_i (by decide), fF.2 13 (by decide)]
        · rw [g1 97 (by decide), sv_i (by decide), fF.2 18 (by decide)]
        · rw [g1 a (by omega), sv_a (by omega), fF.1 a (by omega) (by omega) (by omega)]
        · rw [r4 i hi, x1 i hi]
      · rw [← e3]; exact hst'
      · have := hK X5 l8 l9 l10 h1
        unfold itr at this
        exact this
    have e48 : (48 + r < 392) = True := eq_true (by omega)
    have e0 : (r < 392) = True := eq_true (by omega)
    simp (disch := first | assumption | omega) only [en_142, w_142_0, w_142_1, w_142_2, w_142_5, w_142_6, w_142_7, w_142_10, w_142_13, w_142_14, w_142_17, w_142_18, w_142_19, w_142_20, w_142_21, w_142_24, w_142_25, w_142_26, w_142_29, w_142_32, w_142_33, w_142_34, w_142_37, w_142_38, w_142_41, w_142_44, w_142_45, w_142_46, w_142_47, w_142_48, w_142_51, w_142_52, w_142_53, w_142_54, w_142_57, w_142_59, w_142_60, w_142_63, w_142_64, w_142_65, w_142_67, w_142_68, w_142_70, w_142_72, w_142_75, w_142_78, w_142_79, w_142_82, w_142_84, w_142_85, w_142_88, w_142_90, w_142_91, w_142_92, w_142_95, w_142_98, w_142_99, w_142_101, w_142_102, w_142_104, w_142_105, w_142_109, w_142_110, w_142_113, w_142_114, w_142_117, w_142_118, w_142_120, w_142_122, w_142_125, w_142_128, w_142_131, w_142_132, w_142_135, w_142_136, w_142_137, w_142_138, w_142_139, w_142_140, w_142_143, w_142_144, w_142_147, w_142_150, w_142_151, w_142_154, w_142_156, w_142_157, w_142_158, w_142_159, w_142_161, w_142_162, w_142_164, w_142_165, w_142_168, w_142_169, w_142_170, w_142_171, w_142_172, w_142_173, w_142_176, w_142_178, w_142_181, w_142_183, w_142_185, w_142_188, w_142_190, w_142_192, w_142_194, w_142_197, w_142_199, w_142_202, w_142_203, w_142_205, w_142_207, w_142_210, w_142_213, w_142_214, w_142_217, w_142_219, w_142_220, w_142_223, w_142_225, w_142_226, w_142_227, w_142_230, w_142_233, w_142_236, w_142_239, w_142_240, w_142_243, w_142_244, w_142_246, w_142_247, w_142_248, w_142_250, w_142_253, w_142_254, w_142_257, w_142_260, w_142_262, w_142_265, w_142_267, a0, a12, a24, a36, a48, a60, a72, a152, a232, a312, ic_clamp, inB_ic, e48, e0, true_and, m12 m4, m6 m4]
    cases hf : fiN X r (601 - m) (T m) with
    | none =>
      rw [hf] at rf
      rw [if_pos rf]
      exact back _ _ _ _ st rfl rfl (by unfold bstF; rw [hf]) hst
    | some i =>
      rw [hf] at rf
      have hi1 := fi_pos _ _ _ hf
      obtain ⟨rf1, rf2⟩ := rf
      have on : (runF X r (601 - m) (T m)) 12 r - ic m = ic (i - 1) := by
        rw [rf2, n2]
        have := m1_eq (a := m) (b := i - 1)
        rw [if_neg (by omega), show i - 1 + 1 = i by omega] at this
        exact this
      rw [if_neg (not_not_intro rf1), on]
      cases st with
      | none =>
        have : (bmI none : Int32) < 0 := by decide
        rw [if_pos this]
        exact back _ _ _ _ (some (m, i - 1)) rfl rfl (by unfold bstF; rw [hf]) (fun b le q => by cases q; omega)
      | some p =>
        obtain ⟨b, le⟩ := p
        have hbl := hst b le rfl
        have n0 : ¬ (bmI (some (b, le)) < 0) := by show ¬ ic b < 0; rw [ic_neg (by omega)]; exact not_false
        rw [if_neg n0]
        by_cases c : i - 1 < le
        · have c' : ¬ lsI (some (b, le)) ≤ ic (i - 1) := by show ¬ ic le ≤ ic (i - 1); rw [ic_le (by omega) (by omega)]; omega
          rw [if_neg c']
          exact back _ _ _ _ (some (m, i - 1)) rfl rfl (by unfold bstF; rw [hf]; show _ = if i - 1 < le then some (m, i - 1) else some (b, le); rw [if_pos c]) (fun b le q => by cases q; omega)
        · have c' : lsI (some (b, le)) ≤ ic (i - 1) := by show ic le ≤ ic (i - 1); rw [ic_le (by omega) (by omega)]; omega
          rw [if_pos c']
          exact back _ _ _ _ (some (b, le)) rfl rfl (by unfold bstF; rw [hf]; show _ = if i - 1 < le then some (m, i - 1) else some (b, le); rw [if_neg c]) hst
end
