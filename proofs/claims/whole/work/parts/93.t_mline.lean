/-! TEXT: a line of the model, as far as a fault goes -/
section
variable {u : Nat × Nat} {L : Nat} {xs : Nat → Int32} {X X' : Nat → Nat → Int32} {Z Z' : Nat → Nat → Int64} {K : List Value → AH → Prop} {V W : Nat → Nat → Int32} {Kd Nu : Nat → Int32} {nt n nx : Nat} {E : PS → Int32 × PS} {T : Nat → Int32}
def mS (nx : Nat) (X : Nat → Nat → Int32) (m : LnS) : Nat → Nat → Int32 := fun a => if a = 120 then upd (X 120) nx (ic m.1) else if a = 121 then m.2.1 else if a = 122 then m.2.2.1 else if a = 123 then m.2.2.2 else X a
section
variable {m : LnS} {g : MG}
theorem mS_n {a : Nat} (h : a < 120 ∨ 123 < a) : mS nx X m a = X a := by
  unfold mS
  rw [if_neg (by omega), if_neg (by omega), if_neg (by omega), if_neg (by omega)]
theorem ME_m (h : ME Kd Nu nt nx X Z) : ME Kd Nu nt nx (mS nx X m) Z := by
  unfold ME
  rw [mS_n (by decide), mS_n (by decide), mS_n (by decide)]
  exact h
theorem gm_120 : gS (mS nx X m) g 120 nx = ic m.1 := by rw [gS_n (by decide) (by decide)]; simp [mS, upd]
theorem gm_121 : gS (mS nx X m) g 121 = m.2.1 := by rw [gS_n (by decide) (by decide)]; simp [mS]
theorem gm_122 : gS (mS nx X m) g 122 = m.2.2.1 := by rw [gS_n (by decide) (by decide)]; simp [mS]
theorem gm_123 : gS (mS nx X m) g 123 = m.2.2.2 := by rw [gS_n (by decide) (by decide)]; simp [mS]
theorem gm_u120 {k : Nat} : va_up (gS (mS nx X m) g) 120 (upd (gS (mS nx X m) g 120) nx (ic k)) = gS (mS nx X (k, m.2)) g := by
  funext a j
  by_cases h : a = 120
  · subst h
    by_cases h2 : j = nx <;> simp [va_up, gS, mS, upd, h2]
  · by_cases h2 : a = 97
    · subst h2; simp [va_up, gS, mS]
    · simp [va_up, gS, mS, h, h2]
theorem gm_u121 {A : Nat → Int32} : va_up (gS (mS nx X m) g) 121 A = gS (mS nx X (m.1, A, m.2.2)) g := by
  funext a j
  by_cases h : a = 121
  · subst h; simp [va_up, gS, mS]
  · by_cases h2 : a = 97
    · subst h2; simp [va_up, gS, mS]
    · simp [va_up, gS, mS, h, h2]
theorem gm_u122 {A : Nat → Int32} : va_up (gS (mS nx X m) g) 122 A = gS (mS nx X (m.1, m.2.1, A, m.2.2.2)) g := by
  funext a j
  by_cases h : a = 122
  · subst h; simp [va_up, gS, mS]
  · by_cases h2 : a = 97
    · subst h2; simp [va_up, gS, mS]
    · simp [va_up, gS, mS, h, h2]
theorem gm_u123 {A : Nat → Int32} : va_up (gS (mS nx X m) g) 123 A = gS (mS nx X (m.1, m.2.1, m.2.2.1, A)) g := by
  funext a j
  by_cases h : a = 123
  · subst h; simp [va_up, gS, mS]
  · by_cases h2 : a = 97
    · subst h2; simp [va_up, gS, mS]
    · simp [va_up, gS, mS, h, h2]
/-- outside the half that is written anew all is as before -/
def FO (nx : Nat) (X : Nat → Nat → Int32) (m : LnS) (g : MG) : Prop := (∀ i, i < 24 * nx ∨ 24 * nx + 24 ≤ i → m.2.1 i = X 121 i ∧ m.2.2.1 i = X 122 i ∧ m.2.2.2 i = X 123 i) ∧ ∀ i, i < 880 * nx ∨ 880 * nx + 880 ≤ i → g.2.1 i = X 124 i ∧ g.2.2.1 i = X 125 i
def FF (nx : Nat) (X : Nat → Nat → Int32) (f : Int32) (m : LnS) (g : MG) : Prop := g.1.2.1 = f ∧ ¬ f ≤ 0 ∧ f ≠ 0 ∧ g.1.2.2.1 < 860 ∧ FO nx X m g
theorem FO_1 {k : Nat} (h : FO nx X m g) : FO nx X (k, m.2) g := h
theorem FO_p {i : Nat} {v : Int32} (hi : i < 24) (h : FO nx X m g) : FO nx X (m.1, upd m.2.1 (24 * nx + i) v, m.2.2) g := by
  refine ⟨fun j hj => ?_, h.2⟩
  obtain ⟨a, b, c⟩ := h.1 j hj
  refine ⟨?_, b, c⟩
  show upd m.2.1 (24 * nx + i) v j = _
  simp only [upd]
  rw [if_neg (by omega)]
  exact a
theorem FO_w {i : Nat} {v : Int32} (hi : i < 24) (h : FO nx X m g) : FO nx X (m.1, m.2.1, upd m.2.2.1 (24 * nx + i) v, m.2.2.2) g := by
  refine ⟨fun j hj => ?_, h.2⟩
  obtain ⟨a, b, c⟩ := h.1 j hj
  refine ⟨a, ?_, c⟩
  show upd m.2.2.1 (24 * nx + i) v j = _
  simp only [upd]
  rw [if_neg (by omega)]
  exact b
theorem FO_a {i : Nat} {v : Int32} (hi : i < 24) (h : FO nx X m g) : FO nx X (m.1, m.2.1, m.2.2.1, upd m.2.2.2 (24 * nx + i) v) g := by
  refine ⟨fun j hj => ?_, h.2⟩
  obtain ⟨a, b, c⟩ := h.1 j hj
  refine ⟨a, b, ?_⟩
  show upd m.2.2.2 (24 * nx + i) v j = _
  simp only [upd]
  rw [if_neg (by omega)]
  exact c
theorem FO_em {o v : Int32} (hc : g.1.2.2.1 < 880) (h : FO nx X m g) : FO nx X m (gEm nx o v g) := by
  refine ⟨h.1, fun j hj => ?_⟩
  obtain ⟨a, b⟩ := h.2 j hj
  show upd g.2.1 (880 * nx + g.1.2.2.1) o j = _ ∧ upd g.2.2.1 (880 * nx + g.1.2.2.1) v j = _
  simp only [upd]
  rw [if_neg (by omega), if_neg (by omega)]
  exact ⟨a, b⟩
/-- the line's end, faulted -/
theorem f_175 {f : Int32} {l1 l2 : Value} (hm : ME Kd Nu nt nx X Z) (h : FF nx X f m g) (hK : ∀ m' g', g'.1.2.1 = f → FO nx X m' g' → K [] (hX u L xs (gS (mS nx X m') g') Z)) : WP 120 0 175 [.ref 97, l1, l2] [] (hX u L xs (gS (mS nx X m) g) Z) K := by
  have hm' := ME_m (m := m) hm
  obtain ⟨h1, h2, h3, h4, h5⟩ := h
  have e2 : (nx < 2) = True := eq_true hm.2.1
  have hnx := hm.2.1
  have x39 : gS (mS nx X m) (gEm nx 0 0 g) 97 39 = ic nx := by rw [gS_39]; exact hm'.2.2.1
  rw [w_120_175, w_120_176, w_120_177, w_120_178, m_emit hm.2.1 hm'.2.2.1 (by omega)]
  refine ⟨by simp, ?_⟩
  rw [app0, w_120_181, w_120_182, w_120_184, m_takeSign1 (show (gEm nx 0 0 g).1.2.1 ≠ 0 by show g.1.2.1 ≠ 0; rw [h1]; exact h3)]
  refine ⟨by simp, ?_⟩
  simp (disch := first | assumption | omega) only [app0, w_120_187, w_120_188, w_120_191, w_120_192, x39, w_120_195, w_120_196, inB_ic, ic_clamp, e2, true_and, gm_120, w_120_197, w_120_198, ic_add1, w_120_199, gm_u120, w_120_200]
  exact hK _ _ h1 (FO_1 (FO_em (by omega) h5))
theorem f_141 {f : Int32} {l1 : Value} (hm : ME Kd Nu nt nx X Z) (h : FF nx X f m g) (hK : ∀ m' g', g'.1.2.1 = f → FO nx X m' g' → K [] (hX u L xs (gS (mS nx X m') g') Z)) : WP 120 0 141 [.ref 97, l1, .int 1] [] (hX u L xs (gS (mS nx X m) g) Z) K := by
  rw [w_120_141, w_120_142, if_neg (by decide), w_120_145, w_120_146, w_120_149, gS_8, if_pos (by rw [h.1]; exact h.2.2.1)]
  exact f_175 hm h hK
/-- what is set before the test is read -/
theorem l_111 {i : Nat} {l2 : Value} (hm : ME Kd Nu nt nx X Z) (hi : i < 24) (hK : WP 120 0 141 [.ref 97, .int (ic (24 * nx + i)), .int 1] [] (hX u L xs (gS (mS nx X (m.1, m.2.1, m.2.2.1, upd m.2.2.2 (24 * nx + i) (ic (880 * nx + g.1.2.2.1)))) (gOp (gDe 0 g))) Z) K) : WP 120 0 111 [.ref 97, .int (ic (24 * nx + i)), l2] [] (hX u L xs (gS (mS nx X m) g) Z) K := by
  have hnx := hm.2.1
  have e48 : (24 * nx + i < 48) = True := eq_true (by omega)
  have x39 : (mS nx X m) 97 39 = ic nx := by rw [mS_n (by decide)]; exact hm.2.2.1
  rw [w_120_111]
  simp (disch := first | assumption | omega) only [w_120_112, w_120_115, w_120_116, w_120_119, w_120_120, gS_39, x39, w_120_123, w_120_124, w_120_125, gS_40, w_120_128, ic_880, w_120_129, inB_ic, ic_clamp, e48, true_and, gm_123, gm_u123, w_120_130, w_120_131, w_120_132]
  rw [show (0 : Int32) = ic 0 from rfl, gs_de, w_120_135, w_120_136, m_opens (show (gDe 0 g).1.2.2.2 < 7 by show (0 : Nat) < 7; omega)]
  refine ⟨by simp, ?_⟩
  rw [app0, w_120_139, w_120_140]
  exact hK
theorem f_111 {f : Int32} {i : Nat} {l2 : Value} (hm : ME Kd Nu nt nx X Z) (hi : i < 24) (h : FF nx X f m g) (hK : ∀ m' g', g'.1.2.1 = f → FO nx X m' g' → K [] (hX u L xs (gS (mS nx X m') g') Z)) : WP 120 0 111 [.ref 97, .int (ic (24 * nx + i)), l2] [] (hX u L xs (gS (mS nx X m) g) Z) K := by
  refine l_111 hm hi (f_141 hm ⟨h.1, h.2.1, h.2.2.1, h.2.2.2.1, ?_⟩ hK)
  exact FO_a hi h.2.2.2.2
theorem f_106 {f : Int32} {i : Nat} {l2 : Value} (hm : ME Kd Nu nt nx X Z) (hi : i < 24) (h : FF nx X f m g) (hK : ∀ m' g', g'.1.2.1 = f → FO nx X m' g' → K [] (hX u L xs (gS (mS nx X m') g') Z)) : WP 120 0 106 [.ref 97, .int (ic (24 * nx + i)), l2] [] (hX u L xs (gS (mS nx X m) g) Z) K := by
  rw [w_120_106, w_120_107, w_120_108, m_takeWord1 (by rw [h.1]; exact h.2.2.1)]
  refine ⟨by simp, ?_⟩
  rw [app0]
  exact f_111 hm hi h hK
theorem f_93 {f : Int32} {i : Nat} {l2 : Value} (hm : ME Kd Nu nt nx X Z) (hi : i < 24) (h : FF nx X f m g) (hK : ∀ m' g', g'.1.2.1 = f → FO nx X m' g' → K [] (hX u L xs (gS (mS nx X m') g') Z)) : WP 120 0 93 [.ref 97, .int (ic (24 * nx + i)), l2] [] (hX u L xs (gS (mS nx X m) g) Z) K := by
  have hnx := hm.2.1
  have e48 : (24 * nx + i < 48) = True := eq_true (by omega)
  have hf0 : g.1.2.1 ≠ 0 := by rw [h.1]; exact h.2.2.1
  have hf1 : ¬ g.1.2.1 ≤ 0 := by rw [h.1]; exact h.2.1
  rw [w_120_93, w_120_94, w_120_97, w_120_98, w_120_99, w_120_100, w_120_102, m_takeN1 hf1 hf0]
  refine ⟨by simp [thr], ?_⟩
  simp (disch := first | assumption | omega) only [List.cons_append, List.nil_append, w_120_105, inB_ic, ic_clamp, e48, true_and, gm_122, gm_u122]
  exact f_106 hm hi ⟨h.1, h.2.1, h.2.2.1, h.2.2.2.1, FO_w hi h.2.2.2.2⟩ hK
theorem f_88 {f : Int32} {i : Nat} {l2 : Value} (hm : ME Kd Nu nt nx X Z) (hi : i < 24) (h : FF nx X f m g) (hK : ∀ m' g', g'.1.2.1 = f → FO nx X m' g' → K [] (hX u L xs (gS (mS nx X m') g') Z)) : WP 120 0 88 [.ref 97, .int (ic (24 * nx + i)), l2] [] (hX u L xs (gS (mS nx X m) g) Z) K := by
  rw [w_120_88, w_120_89, w_120_90, m_takeWord1 (by rw [h.1]; exact h.2.2.1)]
  refine ⟨by simp, ?_⟩
  rw [app0]
  exact f_93 hm hi h hK
end
theorem bnd_f {r : Int32 × PS} {F : PS → Int32 × PS} (h : r.1 ≠ 0) : bnd r F = r := by unfold bnd; rw [if_neg h]
theorem bnd_s {r : Int32 × PS} {F : PS → Int32 × PS} (h : r.1 = 0) : bnd r F = F r.2 := by unfold bnd; rw [if_pos h]
/-- where a word or a sign that is wanted stands, or a fault -/
theorem pa_y {c : Int32} {σ : PS} (h : Kd σ.1 = c) : paF Kd c σ = (0, nxF σ) := by unfold paF; rw [if_pos h]
theorem pa_n {c : Int32} {σ : PS} (h : ¬ Kd σ.1 = c) : paF Kd c σ = (1, σ) := by unfold paF; rw [if_neg h]
end
