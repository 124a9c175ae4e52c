/-! BEST, OF THE MODEL -/
section
variable {u : Nat × Nat} {L : Nat} {xs : Nat → Int32} {X : Nat → Nat → Int32} {Z : Nat → Nat → Int64} {K : List Value → AH → Prop} {V W : Nat → Nat → Int32}
theorem MR_upc {a i : Nat} {v : Int32} (h : MR X V) (hi : i < msz a) : MR (sv X (mcl a) (mof a + i) v) (sv V a i v) := by
  obtain ⟨h1, h2, h3, h4⟩ := h
  have n0 : (0 : Nat) ≠ a := by rintro rfl; exact absurd hi (Nat.not_lt_zero _)
  have n1 : (1 : Nat) ≠ a := by rintro rfl; exact absurd hi (Nat.not_lt_zero _)
  have n14 : (14 : Nat) ≠ a := by rintro rfl; exact absurd hi (Nat.not_lt_zero _)
  have n97 := Ne.symm (mcl_lt hi).1
  refine ⟨by rw [sv_a n97, sv_a n0]; exact h1, by rw [sv_a n97, sv_a n1]; exact h2, by rw [sv_a n97, sv_a n14]; exact h3, fun b j hj => ?_⟩
  rw [sv_at, sv_at, ← h4 b j hj]
  by_cases e : b = a
  · subst e
    by_cases e2 : j = i
    · subst e2; simp
    · rw [if_neg (by omega), if_neg (by omega)]
  · rw [if_neg (c := b = a ∧ j = i) (fun q => e q.1)]
    by_cases e2 : mcl b = mcl a
    · have := seg_apart b (msz_lt hj) a (msz_lt hi) e (by omega) (by omega) e2
      rw [if_neg (by omega)]
    · rw [if_neg (fun q => e2 q.1)]
theorem u5 {r : Nat} {m : Int32} (h : MR X V) (hr : r < 12) : MR (sv X 106 r m) (T5 r m V) := by have := MR_upc (a := 5) (v := m) h hr; rwa [show mof 5 = 0 from rfl, Nat.zero_add] at this
theorem mcl_cases {b j : Nat} (h : j < msz b) : (105 ≤ mcl b ∧ mcl b ≤ 112) ∨ (mcl b = 113 ∧ mof b + j < 392) := by
  have q : ∀ b : Fin 23, msz b.1 = 0 ∨ (105 ≤ mcl b.1 ∧ mcl b.1 ≤ 112) ∨ (mcl b.1 = 113 ∧ mof b.1 + msz b.1 ≤ 392) := by decide +kernel
  have := q ⟨b, msz_lt h⟩
  rcases this with e | e | e
  · exact absurd h (by rw [show msz b = 0 from e]; omega)
  · exact Or.inl e
  · exact Or.inr ⟨e.1, by have := e.2; simp only at this; omega⟩
theorem MR_same {X' : Nat → Nat → Int32} (h23 : X' 97 23 = X 97 23) (h13 : X' 97 13 = X 97 13) (h18 : X' 97 18 = X 97 18) (hc : ∀ a, 105 ≤ a → a ≤ 112 → X' a = X a) (hr : ∀ i, i < 392 → X' 113 i = X 113 i) (h : MR X V) : MR X' V := by
  obtain ⟨h1, h2, h3, h4⟩ := h
  refine ⟨by rw [h23]; exact h1, by rw [h13]; exact h2, by rw [h18]; exact h3, fun b j hj => ?_⟩
  rw [← h4 b j hj]
  rcases mcl_cases hj with q | q
  · rw [hc _ q.1 q.2]
  · rw [q.1]; exact hr _ q.2
def runF (X : Nat → Nat → Int32) (r : Nat) : Nat → (Nat → Nat → Int32) → (Nat → Nat → Int32)
  | 0, V => V
  | d + 1, V => if V 6 r = 3 then V else runF X r d (ticF X V)
theorem run_fi {r : Nat} : ∀ d V, ¬ V 6 r = 3 → match fiN X r d V with | none => ¬ (runF X r d V) 6 r = 3 | some i => (runF X r d V) 6 r = 3 ∧ (runF X r d V) 12 r = V 0 5 + ic i := by
  intro d
  induction d with
  | zero => intro V h; exact h
  | succ d ih =>
    intro V h
    unfold fiN runF
    rw [if_neg h]
    by_cases c : (ticF X V) 6 r = 3
    · rw [if_pos c]
      show (runF X r d (ticF X V)) 6 r = 3 ∧ (runF X r d (ticF X V)) 12 r = V 0 5 + ic 1
      have e : runF X r d (ticF X V) = ticF X V := by
        cases d with
        | zero => rfl
        | succ d => unfold runF; rw [if_pos c]
      rw [e]
      refine ⟨c, ?_⟩
      rw [q12_tic h c, tic_now]
      rfl
    · rw [if_neg c]
      have := ih (ticF X V) c
      cases hf : fiN X r d (ticF X V) with
      | none => rw [hf] at this; exact this
      | some i =>
        rw [hf] at this
        refine ⟨this.1, ?_⟩
        show (runF X r d (ticF X V)) 12 r = V 0 5 + ic (i + 1)
        rw [this.2, tic_now, ← ic_add1, Int32.add_assoc, Int32.add_comm 1]
theorem l_tick_m {r c : Nat} {ls : List Value} (hr : r < 12) (hls : ∃ l4 l5 l6 l7 l8 l9 l10 p2 p3, ls = [.ref 97, .int (ic r), p2, p3, l4, l5, l6, l7, l8, l9, l10]) : ∀ d X V a, SI X → MR X V → WI (npN X) V → V 0 5 = ic a → a + d ≤ 600 → (∀ e, e < d → ¬ (tcs X e V) 6 r = 3) → (∀ X', MR X' (tcs X d V) → Fr X X' → WP 142 0 121 ls [] (hX u L xs X' Z) K) → WP 142 0 121 ls [] (hX u L xs X Z) K := by
  obtain ⟨l4, l5, l6, l7, l8, l9, l10, p2, p3, rfl⟩ := hls
  intro d
  induction d with
  | zero => intro X V a hs hm hw ha hd he hK; exact hK X hm Fr_refl
  | succ d ih =>
    intro X V a hs hm hw ha hd he hK
    have h23 := hm.1
    have e0 : (r < 392) = True := eq_true (by omega)
    have e1 : (600 ≤ a) = False := eq_false (by omega)
    have h3 : ¬ V 6 r = 3 := he 0 (by omega)
    rw [w_142_121]
    simp (disch := first | assumption | omega) only [en_142, w_142_0, w_142_1, w_142_2, w_142_5, w_142_6, w_142_7, w_142_10, w_142_13, w_142_14, w_142_17, w_142_18, w_142_19, w_142_20, w_142_21, w_142_24, w_142_25, w_142_26, w_142_29, w_142_32, w_142_33, w_142_34, w_142_37, w_142_38, w_142_41, w_142_44, w_142_45, w_142_46, w_142_47, w_142_48, w_142_51, w_142_52, w_142_53, w_142_54, w_142_57, w_142_59, w_142_60, w_142_63, w_142_64, w_142_65, w_142_67, w_142_68, w_142_70, w_142_72, w_142_75, w_142_78, w_142_79, w_142_82, w_142_84, w_142_85, w_142_88, w_142_90, w_142_91, w_142_92, w_142_95, w_142_98, w_142_99, w_142_101, w_142_102, w_142_104, w_142_105, w_142_107, w_142_109, w_142_110, w_142_113, w_142_114, w_142_117, w_142_118, w_142_120, w_142_122, w_142_125, w_142_128, w_142_131, w_142_132, w_142_135, w_142_136, w_142_137, w_142_138, w_142_139, w_142_140, w_142_144, w_142_147, w_142_150, w_142_151, w_142_154, w_142_156, w_142_157, w_142_158, w_142_159, w_142_161, w_142_162, w_142_164, w_142_165, w_142_168, w_142_169, w_142_170, w_142_171, w_142_172, w_142_173, w_142_176, w_142_178, w_142_181, w_142_183, w_142_185, w_142_188, w_142_190, w_142_192, w_142_194, w_142_196, w_142_197, w_142_199, w_142_202, w_142_203, w_142_205, w_142_207, w_142_210, w_142_213, w_142_214, w_142_217, w_142_219, w_142_220, w_142_223, w_142_225, w_142_226, w_142_227, w_142_230, w_142_233, w_142_236, w_142_239, w_142_240, w_142_243, w_142_244, w_142_246, w_142_247, w_142_248, w_142_250, w_142_253, w_142_254, w_142_257, w_142_260, w_142_262, w_142_265, w_142_267, h23, ha, show (600 : Int32) = ic 600 from rfl, ic_le, e1, if_false, a0, a12, a24, a36, a48, a60, a72, a152, a232, a312, ic_clamp, inB_ic, e0, true_and, m6 hm, h3]
    rw [w_142_143, w_142_144]
    refine m_minute hs hm hw (fun X' hm' hw' hf => ?_)
    simp only [ne_thr0, app0, true_and]
    rw [w_142_147]
    obtain ⟨hs', np'⟩ := Fr_SI hf hs
    have lo := Fr_Lo hf
    refine ih X' (ticF X V) (a + 1) hs' hm' (by rw [np']; exact hw') (by rw [tic_now, ha, ic_add1]) (by omega) (fun e h => ?_) (fun X2 h1 h2 => hK X2 ?_ (Fr_tr hf h2))
    · rw [lo_tcs lo]
      exact he (e + 1) (by omega)
    · rw [lo_tcs lo] at h1
      exact h1
theorem l_run_m {r : Nat} {ls : List Value} (hr : r < 12) (hls : ∃ l4 l5 l6 l7 l8 l9 l10 p2 p3, ls = [.ref 97, .int (ic r), p2, p3, l4, l5, l6, l7, l8, l9, l10]) : ∀ d X V, SI X → MR X V → WI (npN X) V → V 0 5 = ic (600 - d) → d ≤ 600 → (∀ X', MR X' (runF X r d V) → Fr X X' → WP 142 0 150 ls [] (hX u L xs X' Z) K) → WP 142 0 121 ls [] (hX u L xs X Z) K := by
  obtain ⟨l4, l5, l6, l7, l8, l9, l10, p2, p3, rfl⟩ := hls
  intro d
  induction d with
  | zero =>
    intro X V hs hm hw ha hd hK
    have h23 := hm.1
    rw [w_142_121]
    simp (disch := first | assumption | omega) only [en_142, w_142_0, w_142_1, w_142_2, w_142_5, w_142_6, w_142_7, w_142_10, w_142_13, w_142_14, w_142_17, w_142_18, w_142_19, w_142_20, w_142_21, w_142_24, w_142_25, w_142_26, w_142_29, w_142_32, w_142_33, w_142_34, w_142_37, w_142_38, w_142_41, w_142_44, w_142_45, w_142_46, w_142_47, w_142_48, w_142_51, w_142_52, w_142_53, w_142_54, w_142_57, w_142_59, w_142_60, w_142_63, w_142_64, w_142_65, w_142_67, w_142_68, w_142_70, w_142_72, w_142_75, w_142_78, w_142_79, w_142_82, w_142_84, w_142_85, w_142_88, w_142_90, w_142_91, w_142_92, w_142_95, w_142_98, w_142_99, w_142_101, w_142_102, w_142_104, w_142_105, w_142_107, w_142_109, w_142_110, w_142_113, w_142_114, w_142_117, w_142_118, w_142_120, w_142_122, w_142_125, w_142_128, w_142_132, w_142_135, w_142_136, w_142_137, w_142_138, w_142_139, w_142_140, w_142_143, w_142_144, w_142_147, w_142_151, w_142_154, w_142_156, w_142_157, w_142_158, w_142_159, w_142_161, w_142_162, w_142_164, w_142_165, w_142_168, w_142_169, w_142_170, w_142_171, w_142_172, w_142_173, w_142_176, w_142_178, w_142_181, w_142_183, w_142_185, w_142_188, w_142_190, w_142_192, w_142_194, w_142_196, w_142_197, w_142_199, w_142_202, w_142_203, w_142_205, w_142_207, w_142_210, w_142_213, w_142_214, w_142_217, w_142_219, w_142_220, w_142_223, w_142_225, w_142_226, w_142_227, w_142_230, w_142_233, w_142_236, w_142_239, w_142_240, w_142_243, w_142_244, w_142_246, w_142_247, w_142_248, w_142_250, w_142_253, w_142_254, w_142_257, w_142_260, w_142_262, w_142_265, w_142_267, h23, ha, show (600 : Int32) = ic 600 from rfl, ic_le, Nat.sub_zero, Nat.le_refl, if_true]
    exact hK X hm Fr_refl
  | succ d ih =>
    intro X V hs hm hw ha hd hK
    have h23 := hm.1
    have e0 : (r < 392) = True := eq_true (by omega)
    have e1 : (600 ≤ 600 - (d + 1)) = False := eq_false (by omega)
    rw [w_142_121]
    unfold runF at hK
    by_cases h3 : V 6 r = 3
    · rw [if_pos h3] at hK
      simp (disch := first | assumption | omega) only [en_142, w_142_0, w_142_1, w_142_2, w_142_5, w_142_6, w_142_7, w_142_10, w_142_13, w_142_14, w_142_17, w_142_18, w_142_19, w_142_20, w_142_21, w_142_24, w_142_25, w_142_26, w_142_29, w_142_32, w_142_33, w_142_34, w_142_37, w_142_38, w_142_41, w_142_44, w_142_45, w_142_46, w_142_47, w_142_48, w_142_51, w_142_52, w_142_53, w_142_54, w_142_57, w_142_59, w_142_60, w_142_63, w_142_64, w_142_65, w_142_67, w_142_68, w_142_70, w_142_72, w_142_75, w_142_78, w_142_79, w_142_82, w_142_84, w_142_85, w_142_88, w_142_90, w_142_91, w_142_92, w_142_95, w_142_98, w_142_99, w_142_101, w_142_102, w_142_104, w_142_105, w_142_107, w_142_109, w_142_110, w_142_113, w_142_114, w_142_117, w_142_118, w_142_120, w_142_122, w_142_125, w_142_128, w_142_131, w_142_132, w_142_135, w_142_136, w_142_137, w_142_138, w_142_139, w_142_140, w_142_144, w_142_147, w_142_151, w_142_154, w_142_156, w_142_157, w_142_158, w_142_159, w_142_161, w_142_162, w_142_164, w_142_165, w_142_168, w_142_169, w_142_170, w_142_171, w_142_172, w_142_173, w_142_176, w_142_178, w_142_181, w_142_183, w_142_185, w_142_188, w_142_190, w_142_192, w_142_194, w_142_196, w_142_197, w_142_199, w_142_202, w_142_203, w_142_205, w_142_207, w_142_210, w_142_213, w_142_214, w_142_217, w_142_219, w_142_220, w_142_223, w_142_225, w_142_226, w_142_227, w_142_230, w_142_233, w_142_236, w_142_239, w_142_240, w_142_243, w_142_244, w_142_246, w_142_247, w_142_248, w_142_250, w_142_253, w_142_254, w_142_257, w_142_260, w_142_262, w_142_265, w_142_267, h23, ha, show (600 : Int32) = ic 600 from rfl, ic_le, e1, if_false, a0, a12, a24, a36, a48, a60, a72, a152, a232, a312, ic_clamp, inB_ic, e0, true_and, m6 hm, h3, if_true]
      exact hK X hm Fr_refl
    · rw [if_neg h3] at hK
      simp (disch := first | assumption | omega) only [en_142, w_142_0, w_142_1, w_142_2, w_142_5, w_142_6, w_142_7, w_142_10, w_142_13, w_142_14, w_142_17, w_142_18, w_142_19, w_142_20, w_142_21, w_142_24, w_142_25, w_142_26, w_142_29, w_142_32, w_142_33, w_142_34, w_142_37, w_142_38, w_142_41, w_142_44, w_142_45, w_142_46, w_142_47, w_142_48, w_142_51, w_142_52, w_142_53, w_142_54, w_142_57, w_142_59, w_142_60, w_142_63, w_142_64, w_142_65, w_142_67, w_142_68, w_142_70, w_142_72, w_142_75, w_142_78, w_142_79, w_142_82, w_142_84, w_142_85, w_142_88, w_142_90, w_142_91, w_142_92, w_142_95, w_142_98, w_142_99, w_142_101, w_142_102, w_142_104, w_142_105, w_142_107, w_142_109, w_142_110, w_142_113, w_142_114, w_142_117, w_142_118, w_142_120, w_142_122, w_142_125, w_142_128, w_142_131, w_142_132, w_142_135, w_142_136, w_142_137, w_142_138, w_142_139, w_142_140, w_142_144, w_142_147, w_142_151, w_142_154, w_142_156, w_142_157, w_142_158, w_142_159, w_142_161, w_142_162, w_142_164, w_142_165, w_142_168, w_142_169, w_142_170, w_142_171, w_142_172, w_142_173, w_142_176, w_142_178, w_142_181, w_142_183, w_142_185, w_142_188, w_142_190, w_142_192, w_142_194, w_142_196, w_142_197, w_142_199, w_142_202, w_142_203, w_142_205, w_142_207, w_142_210, w_142_213, w_142_214, w_142_217, w_142_219, w_142_220, w_142_223, w_142_225, w_142_226, w_142_227, w_142_230, w_142_233, w_142_236, w_142_239, w_142_240, w_142_243, w_142_244, w_142_246, w_142_247, w_142_248, w_142_250, w_142_253, w_142_254, w_142_257, w_142_260, w_142_262, w_142_265, w_142_267, h23, ha, show (600 : Int32) = ic 600 from rfl, ic_le, e1, if_false, a0, a12, a24, a36, a48, a60, a72, a152, a232, a312, ic_clamp, inB_ic, e0, true_and, m6 hm, h3]
      rw [w_142_143, w_142_144]
      refine m_minute hs hm hw (fun X' hm' hw' hf => ?_)
      simp only [ne_thr0, app0, true_and]
      rw [w_142_147]
      obtain ⟨hs', np'⟩ := Fr_SI hf hs
      have lo := Fr_Lo hf
      have lr : ∀ d V, runF X' r d V = runF X r d V := by
        intro d
        induction d with
        | zero => intro V; rfl
        | succ d ih => intro V; unfold runF; rw [lo_tic lo, ih]
      refine ih X' (ticF X V) hs' hm' (by rw [np']; exact hw') (by rw [tic_now, ha, ic_add1]; congr 1; omega) (by omega) (fun X2 h1 h2 => hK X2 ?_ (Fr_tr hf h2))
      rw [lr] at h1
      exact h1
theorem l_keep {ls : Nat → List Value} {l1 l2 l3 l4 l5 l7 l8 l9 l10 : Value} : ∀ d k X', k + d = 392 → (∀ a, a ≠ 114 → X' a = X a) → (∀ i, i < k → X' 114 i = X 113 i) → (∀ X2 l6, (∀ a, a ≠ 114 → X2 a = X a) → (∀ i, i < 392 → X2 114 i = X 113 i) → WP 142 0 98 [.ref 97, l1, l2, l3, l4, l5, l6, l7, l8, l9, l10] [] (hX u L xs X2 Z) K) → WP 142 0 70 [.ref 97, l1, l2, l3, l4, l5, .int (ic k), l7, l8, l9, l10] [] (hX u L xs X' Z) K := by
  intro d
  induction d with
  | zero =>
    intro k X' hk h1 h2 hK
    have e : (392 ≤ k) = True := eq_true (by omega)
    rw [w_142_70]
    simp (disch := first | assumption | omega) only [en_142, w_142_0, w_142_1, w_142_2, w_142_5, w_142_6, w_142_7, w_142_10, w_142_13, w_142_14, w_142_17, w_142_18, w_142_19, w_142_20, w_142_21, w_142_24, w_142_25, w_142_26, w_142_29, w_142_32, w_142_33, w_142_34, w_142_37, w_142_38, w_142_41, w_142_44, w_142_45, w_142_46, w_142_47, w_142_48, w_142_51, w_142_52, w_142_53, w_142_54, w_142_57, w_142_59, w_142_60, w_142_63, w_142_64, w_142_65, w_142_67, w_142_68, w_142_72, w_142_75, w_142_79, w_142_82, w_142_84, w_142_85, w_142_88, w_142_90, w_142_91, w_142_92, w_142_95, w_142_99, w_142_101, w_142_102, w_142_104, w_142_105, w_142_107, w_142_109, w_142_110, w_142_113, w_142_114, w_142_117, w_142_118, w_142_120, w_142_121, w_142_122, w_142_125, w_142_128, w_142_131, w_142_132, w_142_135, w_142_136, w_142_137, w_142_138, w_142_139, w_142_140, w_142_143, w_142_144, w_142_147, w_142_150, w_142_151, w_142_154, w_142_156, w_142_157, w_142_158, w_142_159, w_142_161, w_142_162, w_142_164, w_142_165, w_142_168, w_142_169, w_142_170, w_142_171, w_142_172, w_142_173, w_142_176, w_142_178, w_142_181, w_142_183, w_142_185, w_142_188, w_142_190, w_142_192, w_142_194, w_142_196, w_142_197, w_142_199, w_142_202, w_142_203, w_142_205, w_142_207, w_142_210, w_142_213, w_142_214, w_142_217, w_142_219, w_142_220, w_142_223, w_142_225, w_142_226, w_142_227, w_142_230, w_142_233, w_142_236, w_142_239, w_142_240, w_142_243, w_142_244, w_142_246, w_142_247, w_142_248, w_142_250, w_142_253, w_142_254, w_142_257, w_142_260, w_142_262, w_142_265, w_142_267, show (392 : Int32) = ic 392 from rfl, ic_le, e, if_true]
    exact hK X' _ h1 (fun i hi => h2 i (by omega))
  | succ d ih =>
    intro k X' hk h1 h2 hK
    have e : (392 ≤ k) = False := eq_false (by omega)
    have e2 : (k < 392) = True := eq_true (by omega)
    rw [w_142_70]
    simp (disch := first | assumption | omega) only [en_142, w_142_0, w_142_1, w_142_2, w_142_5, w_142_6, w_142_7, w_142_10, w_142_13, w_142_14, w_142_17, w_142_18, w_142_19, w_142_20, w_142_21, w_142_24, w_142_25, w_142_26, w_142_29, w_142_32, w_142_33, w_142_34, w_142_37, w_142_38, w_142_41, w_142_44, w_142_45, w_142_46, w_142_47, w_142_48, w_142_51, w_142_52, w_142_53, w_142_54, w_142_57, w_142_59, w_142_60, w_142_63, w_142_64, w_142_65, w_142_67, w_142_68, w_142_72, w_142_75, w_142_78, w_142_79, w_142_82, w_142_84, w_142_85, w_142_88, w_142_90, w_142_91, w_142_92, w_142_95, w_142_99, w_142_101, w_142_102, w_142_104, w_142_105, w_142_107, w_142_109, w_142_110, w_142_113, w_142_114, w_142_117, w_142_118, w_142_120, w_142_121, w_142_122, w_142_125, w_142_128, w_142_131, w_142_132, w_142_135, w_142_136, w_142_137, w_142_138, w_142_139, w_142_140, w_142_143, w_142_144, w_142_147, w_142_150, w_142_151, w_142_154, w_142_156, w_142_157, w_142_158, w_142_159, w_142_161, w_142_162, w_142_164, w_142_165, w_142_168, w_142_169, w_142_170, w_142_171, w_142_172, w_142_173, w_142_176, w_142_178, w_142_181, w_142_183, w_142_185, w_142_188, w_142_190, w_142_192, w_142_194, w_142_196, w_142_197, w_142_199, w_142_202, w_142_203, w_142_205, w_142_207, w_142_210, w_142_213, w_142_214, w_142_217, w_142_219, w_142_220, w_142_223, w_142_225, w_142_226, w_142_227, w_142_230, w_142_233, w_142_236, w_142_239, w_142_240, w_142_243, w_142_244, w_142_246, w_142_247, w_142_248, w_142_250, w_142_253, w_142_254, w_142_257, w_142_260, w_142_262, w_142_265, w_142_267, show (392 : Int32) = ic 392 from rfl, ic_le, e, if_false, inB_ic, ic_clamp, e2, true_and, sv_d, ic_add1]
    refine ih (k + 1) _ (by omega) (fun a ha => by rw [sv_a ha]; exact h1 a ha) (fun i hi => ?_) hK
    by_cases c : i = k
    · subst c; rw [sv_s, h1 113 (by decide)]
    · rw [sv_i c]; exact h2 i (by omega)
theorem l_back {Y : Nat → Nat → Int32} {l1 l2 l3 l4 l5 l6 l7 l8 l9 : Value} : ∀ d k X', k + d = 392 → (∀ a, a ≠ 113 → X' a = Y a) → (∀ i, i < k → X' 113 i = Y 114 i) → (∀ X2 l10, (∀ a, a ≠ 113 → X2 a = Y a) → (∀ i, i < 392 → X2 113 i = Y 114 i) → WP 142 0 233 [.ref 97, l1, l2, l3, l4, l5, l6, l7, l8, l9, l10] [] (hX u L xs X2 Z) K) → WP 142 0 205 [.ref 97, l1, l2, l3, l4, l5, l6, l7, l8, l9, .int (ic k)] [] (hX u L xs X' Z) K := by
  intro d
  induction d with
  | zero =>
    intro k X' hk h1 h2 hK
    have e : (392 ≤ k) = True := eq_true (by omega)
    rw [w_142_205]
    simp (disch := first | assumption | omega) only [en_142, w_142_0, w_142_1, w_142_2, w_142_5, w_142_6, w_142_7, w_142_10, w_142_13, w_142_14, w_142_17, w_142_18, w_142_19, w_142_20, w_142_21, w_142_24, w_142_25, w_142_26, w_142_29, w_142_32, w_142_33, w_142_34, w_142_37, w_142_38, w_142_41, w_142_44, w_142_45, w_142_46, w_142_47, w_142_48, w_142_51, w_142_52, w_142_53, w_142_54, w_142_57, w_142_59, w_142_60, w_142_63, w_142_64, w_142_65, w_142_67, w_142_68, w_142_70, w_142_72, w_142_75, w_142_78, w_142_79, w_142_82, w_142_84, w_142_85, w_142_88, w_142_90, w_142_91, w_142_92, w_142_95, w_142_98, w_142_99, w_142_101, w_142_102, w_142_104, w_142_105, w_142_107, w_142_109, w_142_110, w_142_113, w_142_114, w_142_117, w_142_118, w_142_120, w_142_121, w_142_122, w_142_125, w_142_128, w_142_131, w_142_132, w_142_135, w_142_136, w_142_137, w_142_138, w_142_139, w_142_140, w_142_143, w_142_144, w_142_147, w_142_150, w_142_151, w_142_154, w_142_156, w_142_157, w_142_158, w_142_159, w_142_161, w_142_162, w_142_164, w_142_165, w_142_168, w_142_169, w_142_170, w_142_171, w_142_172, w_142_173, w_142_176, w_142_178, w_142_181, w_142_183, w_142_185, w_142_188, w_142_190, w_142_192, w_142_194, w_142_196, w_142_197, w_142_199, w_142_202, w_142_203, w_142_207, w_142_210, w_142_214, w_142_217, w_142_219, w_142_220, w_142_223, w_142_225, w_142_226, w_142_227, w_142_230, w_142_236, w_142_239, w_142_240, w_142_243, w_142_244, w_142_246, w_142_247, w_142_248, w_142_250, w_142_253, w_142_254, w_142_257, w_142_260, w_142_262, w_142_265, w_142_267, show (392 : Int32) = ic 392 from rfl, ic_le, e, if_true]
    exact hK X' _ h1 (fun i hi => h2 i (by omega))
  | succ d ih =>
    intro k X' hk h1 h2 hK
    have e : (392 ≤ k) = False := eq_false (by omega)
    have e2 : (k < 392) = True := eq_true (by omega)
    rw [w_142_205]
    simp (disch := first | assumption | omega) only [en_142, w_142_0, w_142_1, w_142_2, w_142_5, w_142_6, w_142_7, w_142_10, w_142_13, w_142_14, w_142_17, w_142_18, w_142_19, w_142_20, w_142_21, w_142_24, w_142_25, w_142_26, w_142_29, w_142_32, w_142_33, w_142_34, w_142_37, w_142_38, w_142_41, w_142_44, w_142_45, w_142_46, w_142_47, w_142_48, w_142_51, w_142_52, w_142_53, w_142_54, w_142_57, w_142_59, w_142_60, w_142_63, w_142_64, w_142_65, w_142_67, w_142_68, w_142_70, w_142_72, w_142_75, w_142_78, w_142_79, w_142_82, w_142_84, w_142_85, w_142_88, w_142_90, w_142_91, w_142_92, w_142_95, w_142_98, w_142_99, w_142_101, w_142_102, w_142_104, w_142_105, w_142_107, w_142_109, w_142_110, w_142_113, w_142_114, w_142_117, w_142_118, w_142_120, w_142_121, w_142_122, w_142_125, w_142_128, w_142_131, w_142_132, w_142_135, w_142_136, w_142_137, w_142_138, w_142_139, w_142_140, w_142_143, w_142_144, w_142_147, w_142_150, w_142_151, w_142_154, w_142_156, w_142_157, w_142_158, w_142_159, w_142_161, w_142_162, w_142_164, w_142_165, w_142_168, w_142_169, w_142_170, w_142_171, w_142_172, w_142_173, w_142_176, w_142_178, w_142_181, w_142_183, w_142_185, w_142_188, w_142_190, w_142_192, w_142_194, w_142_196, w_142_197, w_142_199, w_142_202, w_142_203, w_142_207, w_142_210, w_142_213, w_142_214, w_142_217, w_142_219, w_142_220, w_142_223, w_142_225, w_142_226, w_142_227, w_142_230, w_142_236, w_142_239, w_142_240, w_142_243, w_142_244, w_142_246, w_142_247, w_142_248, w_142_250, w_142_253, w_142_254, w_142_257, w_142_260, w_142_262, w_142_265, w_142_267, show (392 : Int32) = ic 392 from rfl, ic_le, e, if_false, inB_ic, ic_clamp, e2, true_and, sv_d, ic_add1]
    refine ih (k + 1) _ (by omega) (fun a ha => by rw [sv_a ha]; exact h1 a ha) (fun i hi => ?_) hK
    by_cases c : i = k
    · subst c; rw [sv_s, h1 114 (by decide)]
    · rw [sv_i c]; exact h2 i (by omega)
end
