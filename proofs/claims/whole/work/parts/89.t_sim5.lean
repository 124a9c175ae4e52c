/-! TEXT: expressions of the model follow the functions -/
section
variable {u : Nat × Nat} {L : Nat} {xs : Nat → Int32} {X X' : Nat → Nat → Int32} {Z Z' : Nat → Nat → Int64} {K : List Value → AH → Prop} {V W : Nat → Nat → Int32} {Kd Nu : Nat → Int32} {nt nx b c0 : Nat} {O0 V0 S0 : Nat → Int32} {l1 : Value} {Q : List Value → AH → Prop}
theorem i60 : isS 60 := Or.inr (Or.inr (Or.inr (Or.inr (Or.inl rfl))))
theorem i61 : isS 61 := Or.inr (Or.inr (Or.inr (Or.inl rfl)))
section
variable {g : MG} {σ : PS} {δ d : Nat}
theorem g_96_yes (hm : ME Kd Nu nt nx X Z) (hd : d < 7) (hf : g.1.2.1 = 0) (he : g.1.2.2.2 = d) (hb : g.2.2.2.2.1 d = 0) (hp : g.1.1 ≤ nt) (hk : Kd g.1.1 = 60 ∨ Kd g.1.1 = 61) (h : pA u L xs X Z l1 Q (gAt (g.1.1 + 1) (gB d (if Kd g.1.1 = 60 then 5 else 6) g))) : pG u L xs X Z l1 Q 96 g := by
  have e7 : (d < 7) = True := eq_true hd
  have k61 : WP 124 0 153 [.ref 97] [] (hX u L xs (gS X g) Z) (fun rv h' => rv ≠ [thr] ∧ WP 120 0 163 [.ref 97, l1, .int 1] (rv ++ []) h' Q) := by
    simp (disch := first | assumption | omega) only [w_124_153, w_124_154, w_124_157, w_124_158, gS_41, he, w_124_161, w_124_162, w_124_164]
    rw [m_sign0 hm i60 hf hp]
    simp only [ne_thr, app1, true_and, List.cons_append, List.nil_append, w_124_167, b2i_z]
    have a1 : ∀ v, (gB d v g).1.1 = g.1.1 := fun v => rfl
    by_cases q : Kd g.1.1 = 60
    · rw [if_pos q] at h
      rw [if_neg (by simp [q])]
      simp (disch := first | assumption | omega) only [w_124_170, w_124_171, w_124_176, inB_ic, ic_clamp, e7, true_and, gS_127, gs_b, w_124_177, w_124_178, w_124_179, gS_7, a1, w_124_182, w_124_183, ic_add1, w_124_184, gs_at, w_124_187, w_124_188, zb1]
      exact gret1 h
    · rw [if_neg q] at h
      rw [if_pos (by simp [q])]
      simp (disch := first | assumption | omega) only [w_124_174, w_124_176, inB_ic, ic_clamp, e7, true_and, gS_127, gs_b, w_124_177, w_124_178, w_124_179, gS_7, a1, w_124_182, w_124_183, ic_add1, w_124_184, gs_at, w_124_187, w_124_188, zb1]
      exact gret1 h
  unfold pG
  rw [w_124_96]
  simp (disch := first | assumption | omega) only [w_124_97, w_124_100, w_124_101, gS_41, he, w_124_104, inB_ic, ic_clamp, e7, true_and, gS_127, hb, w_124_105, if_true, w_124_135, w_124_136, w_124_138]
  rw [m_sign0 hm i60 hf hp]
  refine ⟨by simp [thr], ?_⟩
  rw [app1, w_124_141]
  by_cases q : Kd g.1.1 = 60
  · rw [if_pos (by simp [q, b2i])]; exact k61
  · have q2 := hk.resolve_left q
    rw [if_neg (by simp [q, b2i]), w_124_144, w_124_145, w_124_147, m_sign0 hm i61 hf hp]
    refine ⟨by simp [thr], ?_⟩
    rw [app1, w_124_150, if_neg (by simp [q2, b2i])]
    exact k61
theorem g_96_no (hm : ME Kd Nu nt nx X Z) (hd : d < 7) (hf : g.1.2.1 = 0) (he : g.1.2.2.2 = d) (hb : g.2.2.2.2.1 d = 0) (hp : g.1.1 ≤ nt) (hk : ¬ (Kd g.1.1 = 60 ∨ Kd g.1.1 = 61)) (h : pG u L xs X Z l1 Q 189 g) : pG u L xs X Z l1 Q 96 g := by
  have e7 : (d < 7) = True := eq_true hd
  have n1 : ¬ Kd g.1.1 = 60 := fun z => hk (Or.inl z)
  have n2 : ¬ Kd g.1.1 = 61 := fun z => hk (Or.inr z)
  unfold pG at h ⊢
  rw [w_124_96]
  simp (disch := first | assumption | omega) only [w_124_97, w_124_100, w_124_101, gS_41, he, w_124_104, inB_ic, ic_clamp, e7, true_and, gS_127, hb, w_124_105, if_true, w_124_135, w_124_136, w_124_138]
  rw [m_sign0 hm i60 hf hp]
  refine ⟨by simp [thr], ?_⟩
  rw [app1, w_124_141, if_neg (by simp [n1, b2i]), w_124_144, w_124_145, w_124_147, m_sign0 hm i61 hf hp]
  refine ⟨by simp [thr], ?_⟩
  rw [app1, w_124_150, if_pos (by simp [n2, b2i])]
  exact h
theorem g_96_em (hm : ME Kd Nu nt nx X Z) (hd : d < 7) (he : g.1.2.2.2 = d) (hb : g.2.2.2.2.1 d ≠ 0) (hc : g.1.2.2.1 < 880) (h : pG u L xs X Z l1 Q 189 (gB d 0 (gEm nx (g.2.2.2.2.1 d) 0 g))) : pG u L xs X Z l1 Q 96 g := by
  have e7 : (d < 7) = True := eq_true hd
  have hb' : (g.2.2.2.2.1 d = 0) = False := eq_false hb
  have a1 : (gEm nx (g.2.2.2.2.1 d) 0 g).1.2.2.2 = d := he
  have a2 : (gEm nx (g.2.2.2.2.1 d) 0 g).2.2.2.2.1 = g.2.2.2.2.1 := rfl
  unfold pG at h ⊢
  rw [w_124_96]
  simp (disch := first | assumption | omega) only [w_124_97, w_124_100, w_124_101, gS_41, he, w_124_104, inB_ic, ic_clamp, e7, true_and, gS_127, hb', w_124_105, if_false, w_124_108, w_124_109, w_124_110, w_124_113, w_124_114, w_124_117, w_124_118, w_124_119]
  rw [m_emit hm.2.1 hm.2.2.1 hc]
  refine ⟨by simp, ?_⟩
  rw [← gs_b, a2] at h
  simp (disch := first | assumption | omega) only [app0, w_124_122, w_124_123, w_124_126, w_124_127, gS_41, a1, w_124_130, w_124_131, inB_ic, ic_clamp, e7, true_and, gS_127, a2, w_124_132]
  exact h
theorem g_189_no (hd : d < 7) (he : g.1.2.2.2 = d) (hb : g.2.2.2.2.2 d = 0) (h : pG u L xs X Z l1 Q 218 g) : pG u L xs X Z l1 Q 189 g := by
  have e7 : (d < 7) = True := eq_true hd
  unfold pG at h ⊢
  rw [w_124_189]
  simp (disch := first | assumption | omega) only [w_124_190, w_124_193, w_124_194, gS_41, he, w_124_197, inB_ic, ic_clamp, e7, true_and, gS_128, hb, w_124_198, if_true]
  exact h
theorem g_189_em (hm : ME Kd Nu nt nx X Z) (hd : d < 7) (he : g.1.2.2.2 = d) (hb : g.2.2.2.2.2 d ≠ 0) (hc : g.1.2.2.1 < 880) (h : pG u L xs X Z l1 Q 218 (gC d 0 (gEm nx 7 0 g))) : pG u L xs X Z l1 Q 189 g := by
  have e7 : (d < 7) = True := eq_true hd
  have hb' : (g.2.2.2.2.2 d = 0) = False := eq_false hb
  have a1 : (gEm nx 7 0 g).1.2.2.2 = d := he
  have a2 : (gEm nx 7 0 g).2.2.2.2.2 = g.2.2.2.2.2 := rfl
  unfold pG at h ⊢
  rw [w_124_189]
  simp (disch := first | assumption | omega) only [w_124_190, w_124_193, w_124_194, gS_41, he, w_124_197, inB_ic, ic_clamp, e7, true_and, gS_128, hb', w_124_198, if_false, w_124_201, w_124_202, w_124_204, w_124_205]
  rw [m_emit hm.2.1 hm.2.2.1 hc]
  refine ⟨by simp, ?_⟩
  rw [← gs_c, a2] at h
  simp (disch := first | assumption | omega) only [app0, w_124_208, w_124_209, w_124_212, w_124_213, gS_41, a1, w_124_216, w_124_217, inB_ic, ic_clamp, e7, true_and, gS_128, a2]
  exact h
theorem g_218_yes (hm : ME Kd Nu nt nx X Z) (hd : d < 7) (hf : g.1.2.1 = 0) (he : g.1.2.2.2 = d) (hp : g.1.1 ≤ nt) (hk : Kd g.1.1 = 132) (h : pA u L xs X Z l1 Q (gAt (g.1.1 + 1) (gC d 7 g))) : pG u L xs X Z l1 Q 218 g := by
  have e7 : (d < 7) = True := eq_true hd
  have a1 : (gC d 7 g).1.1 = g.1.1 := rfl
  have hk' : decide (Kd g.1.1 = ic (129 + 3)) = true := by rw [show ic (129 + 3) = 132 from rfl]; simpa using hk
  unfold pG
  rw [w_124_218, w_124_219, show (3 : Int32) = ic 3 from rfl, w_124_220, m_word0 hm (by omega) hf hp, hk']
  refine ⟨by simp [thr], ?_⟩
  rw [app1, w_124_223, if_neg (by simp [b2i])]
  simp (disch := first | assumption | omega) only [w_124_226, w_124_227, w_124_230, w_124_231, gS_41, he, w_124_234, w_124_236, inB_ic, ic_clamp, e7, true_and, gS_128, gs_c, w_124_237, w_124_238, w_124_239, gS_7, a1, w_124_242, w_124_243, ic_add1, w_124_244, gs_at, w_124_247, w_124_248, zb1]
  exact gret1 h
theorem g_218_no (hm : ME Kd Nu nt nx X Z) (hf : g.1.2.1 = 0) (hp : g.1.1 ≤ nt) (hk : ¬ Kd g.1.1 = 132) (h : pG u L xs X Z l1 Q 249 g) : pG u L xs X Z l1 Q 218 g := by
  have hk' : decide (Kd g.1.1 = ic (129 + 3)) = false := by rw [show ic (129 + 3) = 132 from rfl]; simpa using hk
  unfold pG at h ⊢
  rw [w_124_218, w_124_219, show (3 : Int32) = ic 3 from rfl, w_124_220, m_word0 hm (by omega) hf hp, hk']
  refine ⟨by simp [thr], ?_⟩
  rw [app1, w_124_223, if_pos (by simp [b2i])]
  exact h
end
/-- a test: one sum or two -/
theorem sim_tst {P : PS → Int32 × PS} {d : Nat} (hm : ME Kd Nu nt nx X Z) (h0 : ∀ i, nt ≤ i → Kd i = 0 ∧ Nu i = 0) (hcb : c0 ≤ b + 24) (hd : d ≤ 5) (hP : SimS u L xs X Z nt nx b c0 O0 V0 S0 l1 Q d P) (hG : Gd nt P) (hPr : Pr P) {σ : PS} {δ : Nat} {g : MG} (hM : MM nx b c0 O0 V0 S0 σ δ d g) (ho : okσ nt σ) (hzp : σ.2.1 ≤ σ.1) (hδ : δ ≤ 3 * d + 1) (ha : g.2.2.2.1 d = 0) (hb : g.2.2.2.2.1 d = 0) : ((cTst Kd P σ).1 = 0 → (∀ g', MM nx b c0 O0 V0 S0 (cTst Kd P σ).2 (δ + 1) d g' → Wt d g g' → g'.2.2.2.1 d = 0 → g'.2.2.2.2.1 d = 0 → g'.2.2.2.2.2 d = g.2.2.2.2.2 d → pG u L xs X Z l1 Q 189 g') → pA u L xs X Z l1 Q g) ∧ ((cTst Kd P σ).1 ≠ 0 → (∀ g', Ft nx c0 O0 V0 X (cTst Kd P σ) g' → pE u L xs X Z l1 Q g') → pA u L xs X Z l1 Q g) := by
  have h8 := hm.1
  obtain ⟨s1, s2⟩ := hP σ δ g hM ho hzp (by omega) ha
  by_cases cP : (P σ).1 = 0
  · obtain ⟨p1, p2, p3⟩ := hPr _ cP
    have oP := hG _ ho
    by_cases c : Kd (P σ).2.1 = 60 ∨ Kd (P σ).2.1 = 61
    · have et : cTst Kd P σ = ((P (nxF (P σ).2)).1, stF (Kd (P σ).2.1) 0 (P (nxF (P σ).2)).2) := by unfold cTst; rw [if_pos ⟨cP, c⟩]
      have hn : okσ nt (nxF (P σ).2) := ok_nx h0 oP (by rcases c with q | q <;> rw [q] <;> decide)
      have oQ := hG _ hn
      have oq := oQ.1
      rw [et]
      -- the second sum
      have go : ∀ g', MM nx b c0 O0 V0 S0 (P σ).2 (δ + 1) d g' → g'.2.2.2.2.1 d = g.2.2.2.2.1 d → pA u L xs X Z l1 Q (gAt ((P σ).2.1 + 1) (gB d (if Kd (P σ).2.1 = 60 then 5 else 6) g')) → pG u L xs X Z l1 Q 96 g' := by
        intro g' M' e2 z
        refine g_96_yes hm (by omega) M'.2.1 M'.2.2.1 (by rw [e2]; exact hb) (by rw [M'.1]; exact oP.1) (by rw [M'.1]; exact c) ?_
        rw [M'.1]
        exact z
      have n1 : (nxF (P σ).2).1 = (P σ).2.1 + 1 := rfl
      have n2 : (nxF (P σ).2).2.1 = (P σ).2.2.1 := rfl
      have sec := fun g' (M' : MM nx b c0 O0 V0 S0 (P σ).2 (δ + 1) d g') (e1 : g'.2.2.2.1 d = 0) => hP (nxF (P σ).2) (δ + 1) (gAt ((P σ).2.1 + 1) (gB d (if Kd (P σ).2.1 = 60 then 5 else 6) g')) (MM_at (MM_b M')) hn (by omega) (by omega) e1
      by_cases cQ : (P (nxF (P σ).2)).1 = 0
      · obtain ⟨r1, r2, r3⟩ := hPr _ cQ
        refine ⟨fun _ hK => s1 cP (fun g' M' w' e1 e2 e3 => go g' M' e2 ((sec g' M' e1).1 cQ (fun g2 M2 w2 f1 f2 f3 => ?_))), fun h => absurd cQ h⟩
        have v1 : g2.2.2.2.2.1 d = if Kd (P σ).2.1 = 60 then 5 else 6 := by
          rw [f2]
          show upd g'.2.2.2.2.1 d _ d = _
          simp [upd]
        have m4 := M2.2.2.2.1
        have m5 := M2.2.2.2.2.1
        refine g_96_em (d := d) hm (by omega) M2.2.2.1 (by rw [v1]; split <;> decide) (by omega) (hK _ ?_ ?_ ?_ ?_ ?_)
        · rcases c with q | q
          · rw [v1, if_pos q, q]
            exact MM_b (MM_em (k := 60) (m := 0) hcb M2 (by omega) (by omega) (by omega) (Or.inr (Or.inr (Or.inr (Or.inr (Or.inr (Or.inl ⟨rfl, rfl⟩)))))) (Or.inr ⟨by rintro (z | z) <;> exact absurd z (by decide), by omega, rfl⟩))
          · have q2 : ¬ Kd (P σ).2.1 = 60 := by rw [q]; decide
            rw [v1, if_neg q2, q]
            exact MM_b (MM_em (k := 61) (m := 0) hcb M2 (by omega) (by omega) (by omega) (Or.inr (Or.inr (Or.inr (Or.inr (Or.inr (Or.inr (Or.inl ⟨rfl, rfl⟩))))))) (Or.inr ⟨by rintro (z | z) <;> exact absurd z (by decide), by omega, rfl⟩))
        · intro j hj
          obtain ⟨x1, x2, x3⟩ := w2 j hj
          obtain ⟨y1, y2, y3⟩ := w' j hj
          refine ⟨x1.trans y1, ?_, x3.trans y3⟩
          show upd g2.2.2.2.2.1 d 0 j = g.2.2.2.2.1 j
          simp only [upd]
          rw [if_neg (by omega), x2]
          show upd g'.2.2.2.2.1 d _ j = _
          simp only [upd]
          rw [if_neg (by omega), y2]
        · exact f1
        · show upd g2.2.2.2.2.1 d 0 d = 0
          simp [upd]
        · exact f3.trans e3
      · refine ⟨fun h => absurd h cQ, fun _ hK => s1 cP (fun g' M' w' e1 e2 e3 => go g' M' e2 ((sec g' M' e1).2 cQ (fun g2 f2 => hK g2 ?_)))⟩
        obtain ⟨q1, q2⟩ := f2
        refine ⟨?_, q2⟩
        rw [q1]
        show _ = (P (nxF (P σ).2)).1 + 16 * X 100 (stF (Kd (P σ).2.1) 0 (P (nxF (P σ).2)).2).1
        rw [st_b.1]
    · have et : cTst Kd P σ = P σ := by unfold cTst; rw [if_neg (fun z => c z.2)]
      rw [et]
      refine ⟨fun _ hK => s1 cP (fun g' M' w' e1 e2 e3 => g_96_no (d := d) hm (by omega) M'.2.1 M'.2.2.1 (by rw [e2]; exact hb) (by rw [M'.1]; exact oP.1) (by rw [M'.1]; exact c) (hK g' M' w' e1 (by rw [e2]; exact hb) e3)), fun h => absurd cP h⟩
  · have et : cTst Kd P σ = P σ := by unfold cTst; rw [if_neg (fun z => cP z.1)]
    rw [et]
    exact ⟨fun h => absurd h cP, fun _ hK => s2 cP hK⟩
theorem sim_expL {P : PS → Int32 × PS} {d : Nat} (hm : ME Kd Nu nt nx X Z) (h0 : ∀ i, nt ≤ i → Kd i = 0 ∧ Nu i = 0) (hcb : c0 ≤ b + 24) (hd : d ≤ 5) (hP : SimS u L xs X Z nt nx b c0 O0 V0 S0 l1 Q d P) (hG : Gd nt P) (hPr : Pr P) {δ : Nat} (hδ : δ ≤ 3 * d) : ∀ n t σ g, MM nx b c0 O0 V0 S0 σ (if t = 0 then δ else δ + 1) d g → okσ nt σ → σ.2.1 + (if t = 0 then 0 else 1) ≤ σ.1 → g.2.2.2.1 d = 0 → g.2.2.2.2.1 d = 0 → g.2.2.2.2.2 d = (if t = 0 then 0 else 7) → 1600 ≤ σ.1 + 2 * n → ((cExpL Kd P n t σ).1 = 0 → (∀ g', MM nx b c0 O0 V0 S0 (cExpL Kd P n t σ).2 (δ + 1) d g' → Wt d g g' → pG u L xs X Z l1 Q 249 g') → pA u L xs X Z l1 Q g) ∧ ((cExpL Kd P n t σ).1 ≠ 0 → (∀ g', Ft nx c0 O0 V0 X (cExpL Kd P n t σ) g' → pE u L xs X Z l1 Q g') → pA u L xs X Z l1 Q g) := by
  have h8 := hm.1
  intro n
  induction n with
  | zero =>
    intro t σ g hM ho hzp ha hb hc hfu
    have o1 := ho.1
    omega
  | succ n ih =>
    intro t σ g hM ho hzp ha hb hc hfu
    obtain ⟨s1, s2⟩ := sim_tst hm h0 hcb hd hP hG hPr hM ho (by omega) (by split <;> omega) ha hb
    have oT := ok_tst h0 hG σ ho
    have ot := oT.1
    obtain ⟨a1, a2, a3⟩ := an_b (t := t) (σ := (cTst Kd P σ).2)
    unfold cExpL
    by_cases cT : (cTst Kd P σ).1 = 0
    · obtain ⟨p1, p2, p3⟩ := pr_tst (Kd := Kd) hPr _ cT
      -- behind the and that waited
      have k218 : ∀ g', MM nx b c0 O0 V0 S0 (cTst Kd P σ).2 ((if t = 0 then δ else δ + 1) + 1) d g' → Wt d g g' → g'.2.2.2.1 d = 0 → g'.2.2.2.2.1 d = 0 → g'.2.2.2.2.2 d = g.2.2.2.2.2 d → (∀ g2, MM nx b c0 O0 V0 S0 (cAnd t (cTst Kd P σ).2) (δ + 1) d g2 → Wt d g g2 → g2.2.2.2.1 d = 0 → g2.2.2.2.2.1 d = 0 → pG u L xs X Z l1 Q 218 g2) → pG u L xs X Z l1 Q 189 g' := by
        intro g' M' w' e1 e2 e3 fin
        by_cases t0 : t = 0
        · rw [if_pos t0] at M' hc
          refine g_189_no (d := d) (by omega) M'.2.2.1 (by rw [e3]; exact hc) (fin g' ?_ w' e1 e2)
          unfold cAnd
          rw [if_pos t0]
          exact M'
        · rw [if_neg t0] at M' hc hzp
          have m4 := M'.2.2.2.1
          have m5 := M'.2.2.2.2.1
          refine g_189_em (d := d) hm (by omega) M'.2.2.1 (by rw [e3, hc]; decide) (by omega) (fin _ ?_ ?_ e1 e2)
          · unfold cAnd
            rw [if_neg t0]
            exact MM_c (MM_em (k := 132) (m := 0) hcb M' (by omega) (by omega) (by omega) (Or.inr (Or.inr (Or.inr (Or.inr (Or.inr (Or.inr (Or.inr ⟨rfl, rfl⟩))))))) (Or.inr ⟨by rintro (z | z) <;> exact absurd z (by decide), by omega, rfl⟩))
          · intro j hj
            obtain ⟨x1, x2, x3⟩ := w' j hj
            refine ⟨x1, x2, ?_⟩
            show upd g'.2.2.2.2.2 d 0 j = _
            simp only [upd]
            rw [if_neg (by omega), x3]
      by_cases cA : Kd (cAnd t (cTst Kd P σ).2).1 = 132
      · rw [if_pos ⟨cT, cA⟩]
        have oA := ok_and (t := t) oT
        have hn : okσ nt (nxF (cAnd t (cTst Kd P σ).2)) := ok_nx h0 oA (by rw [cA]; decide)
        have n1 : (nxF (cAnd t (cTst Kd P σ).2)).1 = (cAnd t (cTst Kd P σ).2).1 + 1 := rfl
        have n2 : (nxF (cAnd t (cTst Kd P σ).2)).2.1 = (cAnd t (cTst Kd P σ).2).2.1 := rfl
        have hz2 : (cAnd t (cTst Kd P σ).2).2.1 ≤ (cAnd t (cTst Kd P σ).2).1 := by
          by_cases t0 : t = 0
          · rw [if_pos t0] at a2 hzp; omega
          · rw [if_neg t0] at a2 hzp; omega
        have nxt := fun g2 (M2 : MM nx b c0 O0 V0 S0 (cAnd t (cTst Kd P σ).2) (δ + 1) d g2) (e1 : g2.2.2.2.1 d = 0) (e2 : g2.2.2.2.2.1 d = 0) => ih (t + 1) (nxF (cAnd t (cTst Kd P σ).2)) (gAt ((cAnd t (cTst Kd P σ).2).1 + 1) (gC d 7 g2)) (by rw [if_neg (by omega)]; exact MM_at (MM_c M2)) hn (by rw [if_neg (by omega)]; omega) e1 e2 (by rw [if_neg (by omega)]; show upd g2.2.2.2.2.2 d 7 d = 7; simp [upd]) (by omega)
        have go : ∀ g2, MM nx b c0 O0 V0 S0 (cAnd t (cTst Kd P σ).2) (δ + 1) d g2 → pA u L xs X Z l1 Q (gAt ((cAnd t (cTst Kd P σ).2).1 + 1) (gC d 7 g2)) → pG u L xs X Z l1 Q 218 g2 := by
          intro g2 M2 z
          refine g_218_yes hm (by omega) M2.2.1 M2.2.2.1 (by rw [M2.1]; exact oA.1) (by rw [M2.1]; exact cA) ?_
          rw [M2.1]
          exact z
        have wC : ∀ g2 : MG, Wt d g2 (gAt ((cAnd t (cTst Kd P σ).2).1 + 1) (gC d 7 g2)) := by
          intro g2 j hj
          refine ⟨rfl, rfl, ?_⟩
          show upd g2.2.2.2.2.2 d 7 j = _
          simp only [upd]
          rw [if_neg (by omega)]
        exact ⟨fun h1 hK => s1 cT (fun g' M' w' e1 e2 e3 => k218 g' M' w' e1 e2 e3 (fun g2 M2 w2 f1 f2 => go g2 M2 ((nxt g2 M2 f1 f2).1 h1 (fun g3 M3 w3 => hK g3 M3 (Wt_tr (Wt_tr w2 (wC g2)) w3))))), fun h1 hK => s1 cT (fun g' M' w' e1 e2 e3 => k218 g' M' w' e1 e2 e3 (fun g2 M2 w2 f1 f2 => go g2 M2 ((nxt g2 M2 f1 f2).2 h1 hK)))⟩
      · rw [if_neg (fun z => cA z.2)]
        refine ⟨fun _ hK => s1 cT (fun g' M' w' e1 e2 e3 => k218 g' M' w' e1 e2 e3 (fun g2 M2 w2 f1 f2 => g_218_no hm M2.2.1 (by rw [M2.1]; exact (ok_and (t := t) oT).1) (by rw [M2.1]; exact cA) (hK g2 M2 w2))), fun h => absurd cT h⟩
    · rw [if_neg (fun z => cT z.1)]
      refine ⟨fun h => absurd h cT, fun _ hK => s2 cT (fun g' f' => hK g' ?_)⟩
      obtain ⟨q1, q2⟩ := f'
      refine ⟨?_, q2⟩
      rw [q1]
      show _ = (cTst Kd P σ).1 + 16 * X 100 (cAnd t (cTst Kd P σ).2).1
      rw [a1]
theorem sim_exp {P : PS → Int32 × PS} {d : Nat} (hm : ME Kd Nu nt nx X Z) (h0 : ∀ i, nt ≤ i → Kd i = 0 ∧ Nu i = 0) (hcb : c0 ≤ b + 24) (hd : d ≤ 5) (hP : SimS u L xs X Z nt nx b c0 O0 V0 S0 l1 Q d P) (hG : Gd nt P) (hPr : Pr P) : SimE u L xs X Z nt nx b c0 O0 V0 S0 l1 Q d (cExpL Kd P 800 0) := by
  intro σ δ g hM ho hzp hδ ha hb hc
  exact sim_expL hm h0 hcb hd hP hG hPr hδ 800 0 σ g hM ho (by rw [if_pos rfl]; omega) ha hb hc (by omega)
theorem sim_P (hm : ME Kd Nu nt nx X Z) (h0 : ∀ i, nt ≤ i → Kd i = 0 ∧ Nu i = 0) (hcb : c0 ≤ b + 24) : ∀ f d, f + d = 5 → SimP u L xs X Z nt nx b c0 O0 V0 S0 l1 Q d (cP Kd Nu f) := by
  intro f
  induction f with
  | zero =>
    intro d hd
    exact sim_part hm h0 hcb (by omega) (by simp; omega) (fun h => by omega) (fun σ ho => ho)
  | succ f ih =>
    intro d hd
    exact sim_part hm h0 hcb (by omega) (by simp; omega) (fun h => sim_exp hm h0 hcb (by omega) (sim_sum hm h0 hcb (by omega) (ih (d + 1) (by omega)) (ok_P h0 f) (pr_P f)) (ok_sum h0 (ok_P h0 f)) (pr_sum (pr_P f))) (ok_expL h0 (ok_sum h0 (ok_P h0 f)) _ _)
theorem sim_E (hm : ME Kd Nu nt nx X Z) (h0 : ∀ i, nt ≤ i → Kd i = 0 ∧ Nu i = 0) (hcb : c0 ≤ b + 24) : SimE u L xs X Z nt nx b c0 O0 V0 S0 l1 Q 0 (cE Kd Nu) := sim_exp hm h0 hcb (by omega) (sim_sum hm h0 hcb (by omega) (sim_P hm h0 hcb 5 0 rfl) (ok_P h0 5) (pr_P 5)) (ok_sum h0 (ok_P h0 5)) (pr_sum (pr_P 5))
end
