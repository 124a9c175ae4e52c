/-! TEXT: a part of the model, and how far the functions go -/
section
variable {u : Nat × Nat} {L : Nat} {xs : Nat → Int32} {X X' : Nat → Nat → Int32} {Z Z' : Nat → Nat → Int64} {K : List Value → AH → Prop} {V W : Nat → Nat → Int32} {Kd Nu : Nat → Int32} {nt nx b c0 : Nat} {O0 V0 S0 : Nat → Int32} {l1 : Value} {Q : List Value → AH → Prop}
def Pr (F : PS → Int32 × PS) : Prop := ∀ σ, (F σ).1 = 0 → (F σ).2.2.1 + σ.1 ≤ (F σ).2.1 + σ.2.1 ∧ σ.1 < (F σ).2.1 ∧ σ.2.1 ≤ (F σ).2.2.1
def Pw (e : Nat) (F : PS → Int32 × PS) : Prop := ∀ σ, (F σ).1 = 0 → (F σ).2.2.1 + σ.1 ≤ (F σ).2.1 + σ.2.1 + e ∧ σ.1 ≤ (F σ).2.1 ∧ σ.2.1 ≤ (F σ).2.2.1
theorem st_b {k v : Int32} {σ : PS} : (stF k v σ).1 = σ.1 ∧ (stF k v σ).2.1 ≤ σ.2.1 + 1 ∧ σ.2.1 ≤ (stF k v σ).2.1 := by
  unfold stF
  split
  · exact ⟨rfl, Nat.le_refl _, Nat.le_succ _⟩
  · exact ⟨rfl, Nat.le_succ _, Nat.le_refl _⟩
theorem nx_b {σ : PS} : (nxF σ).1 = σ.1 + 1 ∧ (nxF σ).2.1 = σ.2.1 := ⟨rfl, rfl⟩
theorem pa_b {c : Int32} {σ : PS} (h : (paF Kd c σ).1 = 0) : paF Kd c σ = (0, nxF σ) ∧ Kd σ.1 = c := by
  unfold paF at h ⊢
  by_cases q : Kd σ.1 = c
  · rw [if_pos q]; exact ⟨rfl, q⟩
  · rw [if_neg q] at h; exact absurd (show (1 : Int32) = 0 from h) (by decide)
theorem pn_b {lo hi : Int32} {σ : PS} (h : (pnF Kd Nu lo hi σ).1 = 0) : pnF Kd Nu lo hi σ = (0, nxF σ) ∧ Kd σ.1 = 128 ∧ ¬ Nu σ.1 < lo ∧ ¬ hi < Nu σ.1 := by
  unfold pnF at h ⊢
  by_cases q : Kd σ.1 = 128
  · rw [if_pos q] at h ⊢
    by_cases q2 : ¬ Nu σ.1 < lo ∧ ¬ hi < Nu σ.1
    · rw [if_pos q2]; exact ⟨rfl, q, q2⟩
    · rw [if_neg q2] at h; exact absurd (show (4 : Int32) = 0 from h) (by decide)
  · rw [if_neg q] at h; exact absurd (show (1 : Int32) = 0 from h) (by decide)
theorem pr_part {E : PS → Int32 × PS} {full : Bool} (hE : Pw 0 E) : Pr (cPart Kd Nu E full) := by
  intro σ h
  unfold cPart at h ⊢
  split at h
  · exact absurd (show (1 : Int32) = 0 from h) (by decide)
  · rename_i q1
    split at h
    · exact absurd (show (5 : Int32) = 0 from h) (by decide)
    · rename_i q2
      rw [if_neg q1, if_neg q2]
      split at h
      · rename_i q3
        split at h
        · rename_i q4
          rw [if_pos q3, if_pos q4]
          obtain ⟨e1, e2, e3⟩ := hE _ q4
          obtain ⟨r, _⟩ := pa_b h
          rw [r]
          have n1 := nx_b (σ := σ)
          have n2 := nx_b (σ := (E (nxF σ)).2)
          show (nxF (E (nxF σ)).2).2.1 + σ.1 ≤ (nxF (E (nxF σ)).2).1 + σ.2.1 ∧ σ.1 < (nxF (E (nxF σ)).2).1 ∧ σ.2.1 ≤ (nxF (E (nxF σ)).2).2.1
          omega
        · rename_i q4
          exact absurd h q4
      · rename_i q3
        rw [if_neg q3]
        split at h
        · rename_i q4
          rw [if_pos q4]
          obtain ⟨r, _⟩ := pn_b h
          rw [r]
          have n1 := nx_b (σ := σ)
          have n2 := nx_b (σ := nxF σ)
          have s1 := st_b (k := 139) (v := Nu (σ.1 + 1)) (σ := nxF (nxF σ))
          show (stF 139 (Nu (σ.1 + 1)) (nxF (nxF σ))).2.1 + σ.1 ≤ (stF 139 (Nu (σ.1 + 1)) (nxF (nxF σ))).1 + σ.2.1 ∧ σ.1 < (stF 139 (Nu (σ.1 + 1)) (nxF (nxF σ))).1 ∧ σ.2.1 ≤ (stF 139 (Nu (σ.1 + 1)) (nxF (nxF σ))).2.1
          omega
        · rename_i q4
          rw [if_neg q4]
          have n1 := nx_b (σ := σ)
          have s1 := st_b (k := Kd σ.1) (v := Nu σ.1) (σ := nxF σ)
          show (stF (Kd σ.1) (Nu σ.1) (nxF σ)).2.1 + σ.1 ≤ (stF (Kd σ.1) (Nu σ.1) (nxF σ)).1 + σ.2.1 ∧ σ.1 < (stF (Kd σ.1) (Nu σ.1) (nxF σ)).1 ∧ σ.2.1 ≤ (stF (Kd σ.1) (Nu σ.1) (nxF σ)).2.1
          omega
theorem pr_sumL {P : PS → Int32 × PS} (hP : Pr P) : ∀ n, Pw 0 (cSumL Kd P n) := by
  intro n
  induction n with
  | zero => intro σ _; show σ.2.1 + σ.1 ≤ σ.1 + σ.2.1 + 0 ∧ σ.1 ≤ σ.1 ∧ σ.2.1 ≤ σ.2.1; omega
  | succ n ih =>
    intro σ h
    unfold cSumL at h ⊢
    split at h
    · rename_i q1
      rw [if_pos q1]
      split at h
      · rename_i q2
        rw [if_pos q2]
        obtain ⟨e1, e2, e3⟩ := hP _ q2
        obtain ⟨f1, f2, f3⟩ := ih _ h
        have n1 := nx_b (σ := σ)
        have s1 := st_b (k := Kd σ.1) (v := 0) (σ := (P (nxF σ)).2)
        omega
      · rename_i q2; exact absurd h q2
    · rename_i q1
      rw [if_neg q1]
      show σ.2.1 + σ.1 ≤ σ.1 + σ.2.1 + 0 ∧ σ.1 ≤ σ.1 ∧ σ.2.1 ≤ σ.2.1
      omega
theorem pr_sum {P : PS → Int32 × PS} (hP : Pr P) : Pr (cSum Kd P) := by
  intro σ h
  unfold cSum at h ⊢
  split at h
  · rename_i q
    rw [if_pos q]
    obtain ⟨e1, e2, e3⟩ := hP _ q
    obtain ⟨f1, f2, f3⟩ := pr_sumL hP 799 _ h
    omega
  · rename_i q; exact absurd h q
theorem pr_tst {P : PS → Int32 × PS} (hP : Pr P) : Pr (cTst Kd P) := by
  intro σ h
  unfold cTst at h ⊢
  split at h
  · rename_i q
    rw [if_pos q]
    obtain ⟨e1, e2, e3⟩ := hP _ q.1
    obtain ⟨f1, f2, f3⟩ := hP (nxF (P σ).2) h
    have n1 := nx_b (σ := (P σ).2)
    have s1 := st_b (k := Kd (P σ).2.1) (v := 0) (σ := (P (nxF (P σ).2)).2)
    show (stF (Kd (P σ).2.1) 0 (P (nxF (P σ).2)).2).2.1 + σ.1 ≤ (stF (Kd (P σ).2.1) 0 (P (nxF (P σ).2)).2).1 + σ.2.1 ∧ σ.1 < (stF (Kd (P σ).2.1) 0 (P (nxF (P σ).2)).2).1 ∧ σ.2.1 ≤ (stF (Kd (P σ).2.1) 0 (P (nxF (P σ).2)).2).2.1
    omega
  · rename_i q
    rw [if_neg q]
    exact hP _ h
theorem an_b {t : Nat} {σ : PS} : (cAnd t σ).1 = σ.1 ∧ (cAnd t σ).2.1 ≤ σ.2.1 + (if t = 0 then 0 else 1) ∧ σ.2.1 ≤ (cAnd t σ).2.1 := by
  unfold cAnd
  by_cases h : t = 0
  · rw [if_pos h, if_pos h]; exact ⟨rfl, Nat.le_refl _, Nat.le_refl _⟩
  · rw [if_neg h, if_neg h]; exact st_b
theorem pr_expL {P : PS → Int32 × PS} (hP : Pr P) : ∀ n t, Pw (if t = 0 then 0 else 1) (cExpL Kd P n t) := by
  intro n
  induction n with
  | zero =>
    intro t σ _
    show σ.2.1 + σ.1 ≤ σ.1 + σ.2.1 + (if t = 0 then 0 else 1) ∧ σ.1 ≤ σ.1 ∧ σ.2.1 ≤ σ.2.1
    omega
  | succ n ih =>
    intro t σ h
    have a1 := an_b (t := t) (σ := (cTst Kd P σ).2)
    unfold cExpL at h ⊢
    split at h
    · rename_i q
      rw [if_pos q]
      obtain ⟨e1, e2, e3⟩ := pr_tst (Kd := Kd) hP _ q.1
      obtain ⟨f1, f2, f3⟩ := ih (t + 1) _ h
      rw [if_neg (by omega)] at f1
      have n1 := nx_b (σ := cAnd t (cTst Kd P σ).2)
      omega
    · rename_i q
      rw [if_neg q]
      obtain ⟨e1, e2, e3⟩ := pr_tst (Kd := Kd) hP _ h
      show (cAnd t (cTst Kd P σ).2).2.1 + σ.1 ≤ (cAnd t (cTst Kd P σ).2).1 + σ.2.1 + (if t = 0 then 0 else 1) ∧ σ.1 ≤ (cAnd t (cTst Kd P σ).2).1 ∧ σ.2.1 ≤ (cAnd t (cTst Kd P σ).2).2.1
      omega
theorem pr_P : ∀ f, Pr (cP Kd Nu f) := by
  intro f
  induction f with
  | zero => exact pr_part (fun σ _ => by show σ.2.1 + σ.1 ≤ σ.1 + σ.2.1 + 0 ∧ σ.1 ≤ σ.1 ∧ σ.2.1 ≤ σ.2.1; omega)
  | succ f ih => exact pr_part (pr_expL (pr_sum ih) 800 0)
/-- the model's part -/
def bdK (kd : Int32) : Prop := ¬ kd = 128 ∧ ¬ kd = 40 ∧ kd < 133
theorem pw_ge {kd : Int32} (h : kd < 133 ∨ ∃ w, 4 ≤ w ∧ w < 11 ∧ kd = ic (129 + w)) : (0 ≤ pwF kd) = ¬ kd < 133 := by
  unfold pwF
  rcases h with h | ⟨w, h1, h2, h3⟩
  · rw [if_pos h]
    simp [h]
  · have : ¬ kd < 133 := by rw [h3, show (133 : Int32) = ic 133 from rfl, ic_lt (by omega) (by omega)]; omega
    rw [if_neg this, h3, show (133 : Int32) = ic 133 from rfl, ic_subN (by omega), show (0 : Int32) = ic 0 from rfl, ic_le (by omega) (by omega), ic_lt (by omega) (by omega), eq_iff_iff]
    omega
theorem pw_6 {kd : Int32} (h : kd < 133 ∨ ∃ w, 4 ≤ w ∧ w < 11 ∧ kd = ic (129 + w)) : (pwF kd = 6) = (kd = 139) := by
  unfold pwF
  rcases h with h | ⟨w, h1, h2, h3⟩
  · rw [if_pos h, eq_iff_iff]
    refine ⟨fun e => absurd e (by decide), fun e => ?_⟩
    rw [e] at h
    exact absurd h (by decide)
  · have : ¬ kd < 133 := by rw [h3, show (133 : Int32) = ic 133 from rfl, ic_lt (by omega) (by omega)]; omega
    rw [if_neg this, h3, show (133 : Int32) = ic 133 from rfl, ic_subN (by omega), show (6 : Int32) = ic 6 from rfl, show (139 : Int32) = ic 139 from rfl, ic_eq (by omega) (by omega), ic_eq (by omega) (by omega), eq_iff_iff]
    omega
section
variable {g : MG}
theorem m_part_bad (hm : ME Kd Nu nt nx X Z) (hf : g.1.2.1 = 0) (hp : g.1.1 ≤ nt) (hb : bdK (Kd g.1.1)) : Call 123 [.ref 97] (hX u L xs (gS X g) Z) K ↔ K [.int 0] (hX u L xs (gS X (gFa (1 + 16 * X 100 g.1.1) g)) Z) := by
  obtain ⟨s, hs, es⟩ := hm.2.2.2.2.2 _ hp
  obtain ⟨t1, _, _, _, _, t6, _⟩ := hm.2.2.2.1 _ hp
  have h8 := hm.1
  have e8 : (g.1.1 < 802) = True := eq_true (by omega)
  have n2 : (X 99 g.1.1 = 2) = False := eq_false (fun e => hb.1 (t1.2 e))
  have w1 := (pos16 (f := 1) (s := s) (by omega) (by omega) hs).1
  rw [← es] at w1
  have w2 : ((gFa (1 + 16 * X 100 g.1.1) g).1.2.1 ≤ 0) = False := eq_false w1
  have d4 : decide (Kd g.1.1 = 40) = false := by simpa using hb.2.1
  have p0 : (0 ≤ pwF (Kd g.1.1)) = False := by rw [pw_ge t6]; simp [hb.2.2]
  rw [en_123]
  simp (disch := first | assumption | omega) only [w_123_0, w_123_1, m_partWord hm hf hp, ne_thr, app1, true_and, w_123_4, w_123_5, w_123_6, gS_8, hf, w_123_9, not_true_eq_false, if_false, w_123_12, w_123_13, w_123_16, w_123_17, gS_7, w_123_20, inB_ic, ic_clamp, e8, gS_99, w_123_21, w_123_22, n2, w_123_25, w_123_26, w_123_28]
  rw [m_sign0 hm (Or.inl rfl) hf hp]
  simp only [ne_thr, app1, true_and, w_123_31, d4, b2i_f, not_true_eq_false, if_false, w_123_34, w_123_35, p0, w_123_38, w_123_39, w_123_40]
  rw [m_wrong0 hm hf hp]
  simp only [ne_thr0, app0, true_and, w_123_43, w_123_59, w_123_60, gS_8, w_123_63, w2, if_false, w_123_66, w_123_67, zb0]
/-- a part that may stand there: behind the first test -/
theorem m_part_46 (hm : ME Kd Nu nt nx X Z) (hf : g.1.2.1 = 0) (hp : g.1.1 ≤ nt) (hb : ¬ bdK (Kd g.1.1)) : Call 123 [.ref 97] (hX u L xs (gS X g) Z) K ↔ WP 123 0 46 [.ref 97, .int (pwF (Kd g.1.1))] [] (hX u L xs (gS X g) Z) K := by
  obtain ⟨t1, _, _, _, _, t6, _⟩ := hm.2.2.2.1 _ hp
  have h8 := hm.1
  have e8 : (g.1.1 < 802) = True := eq_true (by omega)
  rw [en_123]
  simp (disch := first | assumption | omega) only [w_123_0, w_123_1, m_partWord hm hf hp, ne_thr, app1, true_and, w_123_4, w_123_5, w_123_6, gS_8, hf, w_123_9, not_true_eq_false, if_false, w_123_12, w_123_13, w_123_16, w_123_17, gS_7, w_123_20, inB_ic, ic_clamp, e8, gS_99, w_123_21, w_123_22]
  by_cases a1 : Kd g.1.1 = 128
  · rw [if_pos (t1.1 a1)]
  · rw [if_neg (fun e => a1 (t1.2 e)), w_123_25, w_123_26, w_123_28, m_sign0 hm (Or.inl rfl) hf hp]
    simp only [ne_thr, app1, true_and, w_123_31, b2i_z]
    by_cases a2 : Kd g.1.1 = 40
    · rw [if_pos (by simp [a2])]
    · have p0 : 0 ≤ pwF (Kd g.1.1) := by rw [pw_ge t6]; exact fun z => hb ⟨a1, a2, z⟩
      rw [if_neg (by simp [a2]), w_123_34, w_123_35, if_pos p0]
theorem m_part_full (hm : ME Kd Nu nt nx X Z) (hf : g.1.2.1 = 0) (hp : g.1.1 ≤ nt) (hb : ¬ bdK (Kd g.1.1)) (hd : g.1.2.2.2 = 5) : Call 123 [.ref 97] (hX u L xs (gS X g) Z) K ↔ K [.int 0] (hX u L xs (gS X (gFa (5 + 16 * X 100 g.1.1) g)) Z) := by
  obtain ⟨s, hs, es⟩ := hm.2.2.2.2.2 _ hp
  have w1 := (pos16 (f := 5) (s := s) (by omega) (by omega) hs).1
  rw [← es] at w1
  have w2 : ((gFa (5 + 16 * X 100 g.1.1) g).1.2.1 ≤ 0) = False := eq_false w1
  rw [m_part_46 hm hf hp hb]
  simp only [w_123_46, w_123_47, gS_41, hd, w_123_50, w_123_51, show (ic 5 = (5 : Int32)) = True by decide, not_true_eq_false, if_false, w_123_54, w_123_55, w_123_56]
  rw [m_wrong0 hm hf hp]
  simp only [ne_thr0, app0, true_and, w_123_59, w_123_60, gS_8, w_123_63, w2, if_false, w_123_66, w_123_67, zb0]
theorem m_part_68 (hm : ME Kd Nu nt nx X Z) (hf : g.1.2.1 = 0) (hp : g.1.1 ≤ nt) (hb : ¬ bdK (Kd g.1.1)) (hd : g.1.2.2.2 < 5) : Call 123 [.ref 97] (hX u L xs (gS X g) Z) K ↔ WP 123 0 68 [.ref 97, .int (pwF (Kd g.1.1))] [] (hX u L xs (gS X g) Z) K := by
  have e5 : (ic g.1.2.2.2 = 5) = False := by rw [show (5 : Int32) = ic 5 from rfl, ic_eq (by omega) (by omega)]; exact eq_false (by omega)
  rw [m_part_46 hm hf hp hb]
  simp only [w_123_46, w_123_47, gS_41, w_123_50, w_123_51, e5, not_false_eq_true, if_true, w_123_59, w_123_60, gS_8, hf, w_123_63, show ((0 : Int32) ≤ 0) = True by decide]
def gOp (g : MG) : MG := gC g.1.2.2.2 0 (gB g.1.2.2.2 0 (gA g.1.2.2.2 0 g))
theorem m_part_par (hm : ME Kd Nu nt nx X Z) (hf : g.1.2.1 = 0) (hp : g.1.1 ≤ nt) (hk : Kd g.1.1 = 40) (hd : g.1.2.2.2 < 5) : Call 123 [.ref 97] (hX u L xs (gS X g) Z) K ↔ K [.int 1] (hX u L xs (gS X (gOp (gDe (g.1.2.2.2 + 1) (gAt (g.1.1 + 1) g)))) Z) := by
  have hb : ¬ bdK (Kd g.1.1) := fun z => z.2.1 hk
  have k' : decide (Kd g.1.1 = 40) = true := by simpa using hk
  have a1 : (gAt (g.1.1 + 1) g).1.2.2.2 = g.1.2.2.2 := rfl
  rw [m_part_68 hm hf hp hb hd, w_123_68, w_123_69, w_123_71, m_hasSign0 hm (Or.inl rfl) hf hp, if_pos hk]
  simp only [ne_thr, app1, true_and, w_123_74, k', b2i_t, show ((1 : Int32) = 0) = False by decide, if_false, w_123_77, w_123_78, w_123_79, gS_41, a1, w_123_82, w_123_83, ic_add1, w_123_84, gs_de, w_123_87, w_123_88]
  rw [m_opens (show (gDe (g.1.2.2.2 + 1) (gAt (g.1.1 + 1) g)).1.2.2.2 < 7 by show g.1.2.2.2 + 1 < 7; omega)]
  simp only [ne_thr0, app0, true_and, w_123_91, w_123_92, zb1]
  exact Iff.rfl
theorem m_part_93 (hm : ME Kd Nu nt nx X Z) (hf : g.1.2.1 = 0) (hp : g.1.1 ≤ nt) (hb : ¬ bdK (Kd g.1.1)) (hk : ¬ Kd g.1.1 = 40) (hd : g.1.2.2.2 < 5) : Call 123 [.ref 97] (hX u L xs (gS X g) Z) K ↔ WP 123 0 93 [.ref 97, .int (pwF (Kd g.1.1))] [] (hX u L xs (gS X g) Z) K := by
  have k' : decide (Kd g.1.1 = 40) = false := by simpa using hk
  rw [m_part_68 hm hf hp hb hd, w_123_68, w_123_69, w_123_71, m_hasSign0 hm (Or.inl rfl) hf hp, if_neg hk]
  simp only [ne_thr, app1, true_and, w_123_74, k', b2i_f, if_true]
theorem m_part_train (hm : ME Kd Nu nt nx X Z) (hf : g.1.2.1 = 0) (hp : g.1.1 < nt) (hk : Kd g.1.1 = 139) (hd : g.1.2.2.2 < 5) (hc : g.1.2.2.1 < 880) : Call 123 [.ref 97] (hX u L xs (gS X g) Z) K ↔ K [.int 0] (hX u L xs (gS X (gEm nx 8 (if Kd (g.1.1 + 1) = 128 ∧ (¬ Nu (g.1.1 + 1) < 0 ∧ ¬ 7 < Nu (g.1.1 + 1)) then Nu (g.1.1 + 1) else 0) (gAt (g.1.1 + 1 + 1) (if Kd (g.1.1 + 1) = 128 then (if ¬ Nu (g.1.1 + 1) < 0 ∧ ¬ 7 < Nu (g.1.1 + 1) then gAt (g.1.1 + 1) g else gFa (4 + 16 * X 100 (g.1.1 + 1)) (gAt (g.1.1 + 1) g)) else gFa (1 + 16 * X 100 (g.1.1 + 1)) (gAt (g.1.1 + 1) g))))) Z) := by
  have hb : ¬ bdK (Kd g.1.1) := fun z => absurd z.2.2 (by rw [hk]; decide)
  obtain ⟨_, _, _, _, _, t6, _⟩ := hm.2.2.2.1 _ (Nat.le_of_lt hp)
  have p6 : pwF (Kd g.1.1) = 6 := by rw [pw_6 t6]; exact hk
  have hn : ∀ q : MG, (gAt (g.1.1 + 1 + 1) q).1.2.2.1 = q.1.2.2.1 := fun q => rfl
  rw [m_part_93 hm hf (Nat.le_of_lt hp) hb (by rw [hk]; decide) hd, p6]
  simp only [w_123_93, w_123_94, w_123_96, not_true_eq_false, if_false, w_123_99, w_123_100, w_123_101, gS_7, w_123_104, w_123_105, ic_add1, w_123_106, gs_at, w_123_109, w_123_110, w_123_112, w_123_113, w_123_114, w_123_116]
  rw [m_takeN0 (g := gAt (g.1.1 + 1) g) hm hf hp]
  simp only [ne_thr, app1, true_and, List.cons_append, List.nil_append, w_123_119]
  rw [m_emit hm.2.1 hm.2.2.1 (by
    rw [show (gAt ((gAt (g.1.1 + 1) g).1.1 + 1) (if Kd (gAt (g.1.1 + 1) g).1.1 = 128 then (if ¬ Nu (gAt (g.1.1 + 1) g).1.1 < 0 ∧ ¬ 7 < Nu (gAt (g.1.1 + 1) g).1.1 then gAt (g.1.1 + 1) g else gFa (4 + 16 * X 100 (gAt (g.1.1 + 1) g).1.1) (gAt (g.1.1 + 1) g)) else gFa (1 + 16 * X 100 (gAt (g.1.1 + 1) g).1.1) (gAt (g.1.1 + 1) g))).1.2.2.1 = g.1.2.2.1 by
      split
      · split <;> rfl
      · rfl]
    exact hc)]
  simp only [ne_thr0, app0, true_and, w_123_122, w_123_123, zb0]
  exact Iff.rfl
theorem m_part_val (hm : ME Kd Nu nt nx X Z) (hf : g.1.2.1 = 0) (hp : g.1.1 ≤ nt) (hb : ¬ bdK (Kd g.1.1)) (hk : ¬ Kd g.1.1 = 40) (ht : ¬ Kd g.1.1 = 139) (hd : g.1.2.2.2 < 5) (hc : g.1.2.2.1 < 880) : Call 123 [.ref 97] (hX u L xs (gS X g) Z) K ↔ K [.int 0] (hX u L xs (gS X (gAt (g.1.1 + 1) (gEm nx (if Kd g.1.1 = 128 then 1 else 2) (if Kd g.1.1 = 128 then Nu g.1.1 else Kd g.1.1 - 133) g))) Z) := by
  obtain ⟨t1, t2, t3, _, _, t6, _⟩ := hm.2.2.2.1 _ hp
  have h8 := hm.1
  have e8 : (g.1.1 < 802) = True := eq_true (by omega)
  have n6 : (pwF (Kd g.1.1) = 6) = False := by rw [pw_6 t6]; exact eq_false ht
  have a1 : ∀ o v, (gEm nx o v g).1.1 = g.1.1 := fun o v => rfl
  rw [m_part_93 hm hf hp hb hk hd]
  simp only [w_123_93, w_123_94, w_123_96, n6, not_false_eq_true, if_true, w_123_124, w_123_125, w_123_126, w_123_134, w_123_135]
  by_cases q : Kd g.1.1 = 128
  · have p0 : (0 ≤ pwF (Kd g.1.1)) = False := by rw [pw_ge t6, q]; decide
    have q3 := t2 q
    have e4 : (Nu g.1.1).toInt64.toInt32 = Nu g.1.1 := Int32.toInt32_toInt64 _
    simp only [p0, if_false, if_pos q]
    simp (disch := first | assumption | omega) only [w_123_129, w_123_130, w_123_134, w_123_135, p0, if_false, w_123_138, w_123_139, w_123_142, w_123_143, gS_7, w_123_146, inB_ic, ic_clamp, e8, true_and, q3, w_123_147, e4, w_123_148, w_123_152]
    rw [m_emit hm.2.1 hm.2.2.1 hc]
    simp only [ne_thr0, app0, true_and, w_123_155, w_123_156, w_123_157, gS_7, a1, w_123_160, w_123_161, ic_add1, w_123_162, gs_at, w_123_165, w_123_166, zb0]
  · have g133 : ¬ Kd g.1.1 < 133 := fun z => hb ⟨q, hk, z⟩
    have p0 : (0 ≤ pwF (Kd g.1.1)) = True := by rw [pw_ge t6]; exact eq_true g133
    have pw : pwF (Kd g.1.1) = Kd g.1.1 - 133 := by unfold pwF; rw [if_neg g133]
    simp only [p0, if_true, if_neg q, w_123_133, w_123_134, w_123_135, w_123_151, w_123_152]
    rw [m_emit hm.2.1 hm.2.2.1 hc, pw]
    simp only [ne_thr0, app0, true_and, w_123_155, w_123_156, w_123_157, gS_7, a1, w_123_160, w_123_161, ic_add1, w_123_162, gs_at, w_123_165, w_123_166, zb0]
end
end
