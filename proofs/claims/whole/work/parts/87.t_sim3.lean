/-! TEXT: the model's automaton follows the functions -/
section
variable {u : Nat × Nat} {L : Nat} {xs : Nat → Int32} {X X' : Nat → Nat → Int32} {Z Z' : Nat → Nat → Int64} {K : List Value → AH → Prop} {V W : Nat → Nat → Int32} {Kd Nu : Nat → Int32} {nt nx b c0 : Nat} {O0 V0 S0 : Nat → Int32} {l1 : Value} {Q : List Value → AH → Prop}
/-- the model is about to read a part -/
def pA (u : Nat × Nat) (L : Nat) (xs : Nat → Int32) (X : Nat → Nat → Int32) (Z : Nat → Nat → Int64) (l1 : Value) (Q : List Value → AH → Prop) (g : MG) : Prop := WP 120 0 141 [.ref 97, l1, .int 1] [] (hX u L xs (gS X g) Z) Q
/-- its line is at an end -/
def pE (u : Nat × Nat) (L : Nat) (xs : Nat → Int32) (X : Nat → Nat → Int32) (Z : Nat → Nat → Int64) (l1 : Value) (Q : List Value → AH → Prop) (g : MG) : Prop := WP 120 0 175 [.ref 97, l1, .int 0] [] (hX u L xs (gS X g) Z) Q
/-- it looks what goes on behind a part, at pc -/
def pG (u : Nat × Nat) (L : Nat) (xs : Nat → Int32) (X : Nat → Nat → Int32) (Z : Nat → Nat → Int64) (l1 : Value) (Q : List Value → AH → Prop) (pc : Nat) (g : MG) : Prop := WP 124 0 pc [.ref 97] [] (hX u L xs (gS X g) Z) (fun rv h' => rv ≠ [thr] ∧ WP 120 0 163 [.ref 97, l1, .int 1] (rv ++ []) h' Q)
section
variable {g : MG}
theorem pA_call (hf : g.1.2.1 = 0) : pA u L xs X Z l1 Q g ↔ Call 123 [.ref 97] (hX u L xs (gS X g) Z) (fun rv h' => rv ≠ [thr] ∧ WP 120 0 156 [.ref 97, l1, .int 1] (rv ++ []) h' Q) := by
  unfold pA
  rw [w_120_141, w_120_142, if_neg (by decide), w_120_145, w_120_146, w_120_149, gS_8, if_neg (by simp [hf]), w_120_152, w_120_153]
theorem ret1 (h : pA u L xs X Z l1 Q g) : [Value.int 1] ≠ [thr] ∧ WP 120 0 156 [.ref 97, l1, .int 1] ([.int 1] ++ []) (hX u L xs (gS X g) Z) Q := by
  refine ⟨by simp [thr], ?_⟩
  rw [app1, w_120_156, if_pos (by decide), w_120_166, w_120_167, w_120_171, w_120_172]
  exact h
theorem ret0 (h : pG u L xs X Z l1 Q 0 g) : [Value.int 0] ≠ [thr] ∧ WP 120 0 156 [.ref 97, l1, .int 1] ([.int 0] ++ []) (hX u L xs (gS X g) Z) Q := by
  refine ⟨by simp [thr], ?_⟩
  rw [app1, w_120_156, if_neg (by decide), w_120_159, w_120_160, en_124]
  exact h
theorem gret1 (h : pA u L xs X Z l1 Q g) : [Value.int 1] ≠ [thr] ∧ WP 120 0 163 [.ref 97, l1, .int 1] ([.int 1] ++ []) (hX u L xs (gS X g) Z) Q := by
  refine ⟨by simp [thr], ?_⟩
  rw [app1, w_120_163, if_neg (by decide), w_120_166, w_120_167, w_120_171, w_120_172]
  exact h
theorem gret0 (h : pE u L xs X Z l1 Q g) : [Value.int 0] ≠ [thr] ∧ WP 120 0 163 [.ref 97, l1, .int 1] ([.int 0] ++ []) (hX u L xs (gS X g) Z) Q := by
  refine ⟨by simp [thr], ?_⟩
  rw [app1, w_120_163, if_pos rfl, w_120_170, w_120_171, w_120_172, w_120_141, w_120_142, if_pos rfl]
  exact h
theorem pG_flt (hf : g.1.2.1 ≠ 0) (h : pE u L xs X Z l1 Q g) : pG u L xs X Z l1 Q 0 g := by
  unfold pG
  rw [w_124_0, w_124_1, w_124_4, gS_8, if_pos hf, w_124_277, w_124_278]
  exact ⟨by decide, gret0 h⟩
end
/-- the operators that wait at the levels before d are the same -/
def Wt (d : Nat) (g g' : MG) : Prop := ∀ j, j < d → g'.2.2.2.1 j = g.2.2.2.1 j ∧ g'.2.2.2.2.1 j = g.2.2.2.2.1 j ∧ g'.2.2.2.2.2 j = g.2.2.2.2.2 j
section
variable (u L xs X Z l1 Q nt nx b c0 O0 V0 S0)
def SimP (d : Nat) (P : PS → Int32 × PS) : Prop := ∀ σ δ g, MM nx b c0 O0 V0 S0 σ δ d g → okσ nt σ → σ.2.1 ≤ σ.1 → δ ≤ 3 * d + 3 → ((P σ).1 = 0 → (∀ g', MM nx b c0 O0 V0 S0 (P σ).2 (δ + 1) d g' → Wt (d + 1) g g' → pG u L xs X Z l1 Q 0 g') → pA u L xs X Z l1 Q g) ∧ ((P σ).1 ≠ 0 → (∀ g', Ft nx c0 O0 V0 X (P σ) g' → pE u L xs X Z l1 Q g') → pA u L xs X Z l1 Q g)
def SimS (d : Nat) (P : PS → Int32 × PS) : Prop := ∀ σ δ g, MM nx b c0 O0 V0 S0 σ δ d g → okσ nt σ → σ.2.1 ≤ σ.1 → δ ≤ 3 * d + 2 → g.2.2.2.1 d = 0 → ((P σ).1 = 0 → (∀ g', MM nx b c0 O0 V0 S0 (P σ).2 (δ + 1) d g' → Wt d g g' → g'.2.2.2.1 d = 0 → g'.2.2.2.2.1 d = g.2.2.2.2.1 d → g'.2.2.2.2.2 d = g.2.2.2.2.2 d → pG u L xs X Z l1 Q 96 g') → pA u L xs X Z l1 Q g) ∧ ((P σ).1 ≠ 0 → (∀ g', Ft nx c0 O0 V0 X (P σ) g' → pE u L xs X Z l1 Q g') → pA u L xs X Z l1 Q g)
def SimE (d : Nat) (P : PS → Int32 × PS) : Prop := ∀ σ δ g, MM nx b c0 O0 V0 S0 σ δ d g → okσ nt σ → σ.2.1 ≤ σ.1 → δ ≤ 3 * d → g.2.2.2.1 d = 0 → g.2.2.2.2.1 d = 0 → g.2.2.2.2.2 d = 0 → ((P σ).1 = 0 → (∀ g', MM nx b c0 O0 V0 S0 (P σ).2 (δ + 1) d g' → Wt d g g' → pG u L xs X Z l1 Q 249 g') → pA u L xs X Z l1 Q g) ∧ ((P σ).1 ≠ 0 → (∀ g', Ft nx c0 O0 V0 X (P σ) g' → pE u L xs X Z l1 Q g') → pA u L xs X Z l1 Q g)
end
theorem Wt_tr {d : Nat} {g g1 g2 : MG} (h : Wt d g g1) (k : Wt d g1 g2) : Wt d g g2 := fun j hj => ⟨(k j hj).1.trans (h j hj).1, (k j hj).2.1.trans (h j hj).2.1, (k j hj).2.2.trans (h j hj).2.2⟩
theorem Wt_le {d e : Nat} {g g1 : MG} (he : e ≤ d) (h : Wt d g g1) : Wt e g g1 := fun j hj => h j (by omega)
theorem Wt_rf {d : Nat} {g : MG} : Wt d g g := fun j _ => ⟨rfl, rfl, rfl⟩
/-- a fault from where both stand -/
theorem Ft_of {σ : PS} {δ d f : Nat} {g : MG} (hm : ME Kd Nu nt nx X Z) (hcb : c0 ≤ b + 24) (h : MM nx b c0 O0 V0 S0 σ δ d g) (ho : okσ nt σ) (h1 : 0 < f) (h2 : f ≤ 5) : Ft nx c0 O0 V0 X (ic f, σ) (gFa (ic f + 16 * X 100 σ.1) g) := by
  obtain ⟨s, hs, es⟩ := hm.2.2.2.2.2 _ ho.1
  have w := pos16 (f := f) (s := s) h1 h2 hs
  rw [← es] at w
  have h5 := h.2.2.2.2.1
  have h4 := h.2.2.2.1
  have o2 := ho.2
  refine ⟨rfl, w.1, w.2, ?_, ?_, h.2.2.2.2.2.2.1⟩
  · show c0 ≤ g.1.2.2.1
    omega
  · show g.1.2.2.1 < 860
    omega
theorem Ft_at {r : Int32 × PS} {g : MG} {p : Nat} (h : Ft nx c0 O0 V0 X r g) : Ft nx c0 O0 V0 X r (gAt p g) := h
theorem Ft_de {r : Int32 × PS} {g : MG} {p : Nat} (h : Ft nx c0 O0 V0 X r g) : Ft nx c0 O0 V0 X r (gDe p g) := h
theorem sim_part {E : PS → Int32 × PS} {d : Nat} {full : Bool} (hm : ME Kd Nu nt nx X Z) (h0 : ∀ i, nt ≤ i → Kd i = 0 ∧ Nu i = 0) (hcb : c0 ≤ b + 24) (hd : d ≤ 5) (hf : full = decide (d = 5)) (hE : d < 5 → SimE u L xs X Z nt nx b c0 O0 V0 S0 l1 Q (d + 1) E) (hG : Gd nt E) : SimP u L xs X Z nt nx b c0 O0 V0 S0 l1 Q d (cPart Kd Nu E full) := by
  intro σ δ g hM ho hzp hδ
  have hM' := hM
  obtain ⟨m1, m2, m3, m4, m5, m6, m7, m8, _⟩ := hM
  have h8 := hm.1
  have o1 := ho.1
  have o2 := ho.2
  have hp : g.1.1 ≤ nt := by rw [m1]; exact o1
  have hco : g.1.2.2.1 < 880 := by omega
  rw [pA_call m2]
  by_cases bd : bdK (Kd σ.1)
  · have er : cPart Kd Nu E full σ = (1, σ) := by unfold cPart; rw [if_pos (show ¬ Kd σ.1 = 128 ∧ ¬ Kd σ.1 = 40 ∧ Kd σ.1 < 133 from bd)]
    rw [er]
    refine ⟨fun h => absurd (show (1 : Int32) = 0 from h) (by decide), fun _ hK => ?_⟩
    rw [m_part_bad hm m2 hp (by rw [m1]; exact bd)]
    have ft := Ft_of (f := 1) hm hcb hM' ho (by omega) (by omega)
    refine ret0 (pG_flt ?_ (hK _ ?_))
    · rw [m1]; exact ft.2.2.1
    · rw [m1]; exact ft
  · by_cases c5 : d = 5
    · have er : cPart Kd Nu E full σ = (5, σ) := by unfold cPart; rw [if_neg (show ¬ (¬ Kd σ.1 = 128 ∧ ¬ Kd σ.1 = 40 ∧ Kd σ.1 < 133) from bd), if_pos (by rw [hf]; simpa using c5)]
      rw [er]
      refine ⟨fun h => absurd (show (5 : Int32) = 0 from h) (by decide), fun _ hK => ?_⟩
      rw [m_part_full hm m2 hp (by rw [m1]; exact bd) (by rw [m3]; exact c5)]
      have ft := Ft_of (f := 5) hm hcb hM' ho (by omega) (by omega)
      refine ret0 (pG_flt ?_ (hK _ ?_))
      · rw [m1]; exact ft.2.2.1
      · rw [m1]; exact ft
    · have nf : ¬ full = true := by rw [hf]; simpa using c5
      have hn0 : Kd σ.1 ≠ 0 := fun e => bd ⟨by rw [e]; decide, by rw [e]; decide, by rw [e]; decide⟩
      have hn : okσ nt (nxF σ) := ok_nx h0 ho hn0
      have hlt : σ.1 < nt := hn.1
      by_cases c40 : Kd σ.1 = 40
      · have er : cPart Kd Nu E full σ = if (E (nxF σ)).1 = 0 then paF Kd 41 (E (nxF σ)).2 else E (nxF σ) := by unfold cPart; rw [if_neg (show ¬ (¬ Kd σ.1 = 128 ∧ ¬ Kd σ.1 = 40 ∧ Kd σ.1 < 133) from bd), if_neg nf, if_pos c40]
        rw [er, m_part_par hm m2 hp (by rw [m1]; exact c40) (by omega), m1, m3]
        have M1 : MM nx b c0 O0 V0 S0 (nxF σ) δ (d + 1) (gOp (gDe (d + 1) (gAt (σ.1 + 1) g))) := MM_c (MM_b (MM_a (MM_de (MM_at hM'))))
        have wz0 : ∀ (f : Nat → Int32), upd f (d + 1) 0 (d + 1) = 0 := fun f => by simp [upd]
        obtain ⟨s1, s2⟩ := hE (by omega) (nxF σ) δ _ M1 hn (by show σ.2.1 ≤ σ.1 + 1; omega) (by omega) (wz0 _) (wz0 _) (wz0 _)
        have wg : Wt (d + 1) g (gOp (gDe (d + 1) (gAt (σ.1 + 1) g))) := by
          intro j hj
          have w1 : ∀ (f : Nat → Int32), upd f (d + 1) 0 j = f j := fun f => by simp only [upd]; rw [if_neg (by omega)]
          exact ⟨w1 _, w1 _, w1 _⟩
        have oE : okσ nt (E (nxF σ)).2 := hG _ hn
        -- behind the inner expression
        have in249 : ∀ g', MM nx b c0 O0 V0 S0 (E (nxF σ)).2 (δ + 1) (d + 1) g' → (Kd (E (nxF σ)).2.1 = 41 → pG u L xs X Z l1 Q 0 (gDe d (gAt ((E (nxF σ)).2.1 + 1) g'))) → (¬ Kd (E (nxF σ)).2.1 = 41 → pE u L xs X Z l1 Q (gDe d (gFa (1 + 16 * X 100 (E (nxF σ)).2.1) g'))) → pG u L xs X Z l1 Q 249 g' := by
          intro g' M' k1 k2
          have M2 := M'
          obtain ⟨n1, n2, n3, _⟩ := M'
          have e0 : (ic (d + 1) = 0) = False := by rw [show (0 : Int32) = ic 0 from rfl, ic_eq (by omega) (by omega)]; exact eq_false (by omega)
          have e1 : ic (d + 1) - 1 = ic d := by rw [← ic_add1]; exact Int32.add_sub_cancel _ _
          unfold pG
          simp only [w_124_249, w_124_250, gS_41, n3, w_124_253, e0, not_false_eq_true, if_true, w_124_258, w_124_259, w_124_261]
          rw [m_takeSign0 hm (Or.inr (Or.inl rfl)) n2 (by rw [n1]; exact oE.1), n1]
          refine ⟨by simp, ?_⟩
          by_cases q : Kd (E (nxF σ)).2.1 = 41
          · rw [if_pos q]
            have a1 : (gAt ((E (nxF σ)).2.1 + 1) g').1.2.2.2 = d + 1 := n3
            simp only [app0, w_124_264, w_124_265, w_124_266, gS_41, a1, w_124_269, w_124_270, e1, w_124_271, gs_de, w_124_274]
            exact k1 q
          · rw [if_neg q]
            have a1 : (gFa (1 + 16 * X 100 (E (nxF σ)).2.1) g').1.2.2.2 = d + 1 := n3
            have ft := Ft_of (f := 1) hm hcb M2 oE (by omega) (by omega)
            simp only [app0, w_124_264, w_124_265, w_124_266, gS_41, a1, w_124_269, w_124_270, e1, w_124_271, gs_de, w_124_274]
            exact pG_flt ft.2.2.1 (k2 q)
        by_cases cE : (E (nxF σ)).1 = 0
        · rw [if_pos cE]
          unfold paF
          by_cases c41 : Kd (E (nxF σ)).2.1 = 41
          · rw [if_pos c41]
            refine ⟨fun _ hK => ret1 (s1 cE (fun g' M' w' => in249 g' M' (fun _ => hK _ (MM_de (MM_at M')) ?_) (fun q => absurd c41 q))), fun h => absurd rfl h⟩
            exact Wt_tr wg w'
          · rw [if_neg c41]
            refine ⟨fun h => absurd (show (1 : Int32) = 0 from h) (by decide), fun _ hK => ret1 (s1 cE (fun g' M' w' => in249 g' M' (fun q => absurd q c41) (fun _ => hK _ (Ft_de (Ft_of (f := 1) hm hcb M' oE (by omega) (by omega))))))⟩
        · rw [if_neg cE]
          exact ⟨fun h => absurd h cE, fun _ hK => ret1 (s2 cE hK)⟩
      · by_cases c139 : Kd σ.1 = 139
        · have er : cPart Kd Nu E full σ = ((pnF Kd Nu 0 7 (nxF σ)).1, stF 139 (Nu (σ.1 + 1)) (pnF Kd Nu 0 7 (nxF σ)).2) := by unfold cPart; rw [if_neg (show ¬ (¬ Kd σ.1 = 128 ∧ ¬ Kd σ.1 = 40 ∧ Kd σ.1 < 133) from bd), if_neg nf, if_neg c40, if_pos c139]
          rw [er, m_part_train hm m2 (by rw [m1]; exact hlt) (by rw [m1]; exact c139) (by omega) hco, m1]
          have M1 : MM nx b c0 O0 V0 S0 (nxF σ) δ d (gAt (σ.1 + 1) g) := MM_at hM'
          have flt : ∀ f : Nat, 0 < f → f ≤ 5 → ∀ τ : PS, τ.1 = σ.1 + 1 → Ft nx c0 O0 V0 X (ic f, τ) (gEm nx 8 0 (gAt (σ.1 + 1 + 1) (gFa (ic f + 16 * X 100 (σ.1 + 1)) (gAt (σ.1 + 1) g)))) := by
            intro f f1 f2 τ hτ
            obtain ⟨q1, q2, q3, q4, q5, q6⟩ := Ft_of (f := f) hm hcb M1 hn f1 f2
            refine ⟨by rw [hτ]; rfl, q2, q3, Nat.le_succ_of_le q4, ?_, fun i hi => ?_⟩
            · show g.1.2.2.1 + 1 < 860
              omega
            · show upd g.2.1 (880 * nx + g.1.2.2.1) 8 i = O0 i ∧ upd g.2.2.1 (880 * nx + g.1.2.2.1) 0 i = V0 i
              simp only [upd]
              rw [if_neg (by omega), if_neg (by omega)]
              exact m7 i hi
          have s1 : ∀ k v τ, (stF k v τ).1 = τ.1 := fun k v τ => st_b.1
          unfold pnF
          rw [show (nxF σ).1 = σ.1 + 1 from rfl]
          by_cases q : Kd (σ.1 + 1) = 128
          · by_cases q2 : ¬ Nu (σ.1 + 1) < 0 ∧ ¬ 7 < Nu (σ.1 + 1)
            · rw [if_pos q, if_pos q2, if_pos ⟨q, q2⟩, if_pos q, if_pos q2]
              refine ⟨fun _ hK => ret0 (hK _ ?_ ?_), fun h => absurd rfl h⟩
              · obtain ⟨mm, hmm, enu⟩ := (hm.2.2.2.1 _ (show σ.1 + 1 ≤ nt from hlt)).2.2.1
                have q7 : mm < 8 := by
                  have := q2.2
                  rw [enu, show (7 : Int32) = ic 7 from rfl, ic_lt (by omega) (by omega)] at this
                  omega
                have M2 : MM nx b c0 O0 V0 S0 (nxF (nxF σ)) δ d (gAt (σ.1 + 1 + 1) (gAt (σ.1 + 1) g)) := MM_at M1
                rw [enu]
                exact MM_em (k := 139) (m := mm) hcb M2 (by show σ.2.1 < 800; omega) (by omega) (by omega) (Or.inr (Or.inr (Or.inl ⟨rfl, rfl, rfl, mm, q7, rfl⟩))) (Or.inl ⟨Or.inr (by decide), by omega, rfl⟩)
              · exact fun j _ => ⟨rfl, rfl, rfl⟩
            · rw [if_pos q, if_neg q2, if_neg (fun z => q2 z.2), if_pos q, if_neg q2]
              refine ⟨fun h => absurd (show (4 : Int32) = 0 from h) (by decide), fun _ hK => ret0 (pG_flt ?_ (hK _ ?_))⟩
              · exact (flt 4 (by omega) (by omega) (nxF σ) rfl).2.2.1
              · exact flt 4 (by omega) (by omega) _ (s1 _ _ _)
          · rw [if_neg q, if_neg (fun z => q z.1), if_neg q]
            refine ⟨fun h => absurd (show (1 : Int32) = 0 from h) (by decide), fun _ hK => ret0 (pG_flt ?_ (hK _ ?_))⟩
            · exact (flt 1 (by omega) (by omega) (nxF σ) rfl).2.2.1
            · exact flt 1 (by omega) (by omega) _ (s1 _ _ _)
        · have er : cPart Kd Nu E full σ = (0, stF (Kd σ.1) (Nu σ.1) (nxF σ)) := by unfold cPart; rw [if_neg (show ¬ (¬ Kd σ.1 = 128 ∧ ¬ Kd σ.1 = 40 ∧ Kd σ.1 < 133) from bd), if_neg nf, if_neg c40, if_neg c139]
          rw [er, m_part_val hm m2 hp (by rw [m1]; exact bd) (by rw [m1]; exact c40) (by rw [m1]; exact c139) (by omega) hco, m1]
          refine ⟨fun _ hK => ret0 (hK _ ?_ (fun j _ => ⟨rfl, rfl, rfl⟩)), fun h => absurd rfl h⟩
          obtain ⟨_, _, ⟨mm, hmm, enu⟩, _, _, t6, _⟩ := hm.2.2.2.1 _ o1
          have key : ∀ k : Nat, Kd σ.1 = ic k → k < 256 → isPu (ic k) → opR (ic k) (ic mm) (if Kd σ.1 = 128 then 1 else 2) (if Kd σ.1 = 128 then Nu σ.1 else Kd σ.1 - 133) → MM nx b c0 O0 V0 S0 (stF (Kd σ.1) (Nu σ.1) (nxF σ)) (δ + 1) d (gAt (σ.1 + 1) (gEm nx (if Kd σ.1 = 128 then 1 else 2) (if Kd σ.1 = 128 then Nu σ.1 else Kd σ.1 - 133) g)) := by
            intro k ek hk hpu hop
            have := MM_em (k := k) (m := mm) hcb (MM_at (p := σ.1 + 1) hM') (by show σ.2.1 < 800; omega) hk hmm hop (Or.inl ⟨hpu, by omega, rfl⟩)
            rw [← ek, ← enu] at this
            exact this
          by_cases q : Kd σ.1 = 128
          · refine key 128 q (by omega) (Or.inl rfl) ?_
            rw [if_pos q, if_pos q, enu]
            exact Or.inl ⟨rfl, rfl, rfl⟩
          · have g133 : ¬ Kd σ.1 < 133 := fun z => bd ⟨q, c40, z⟩
            rcases t6 with h | ⟨w, w1, w2, w3⟩
            · exact absurd h g133
            · have w10 : w ≠ 10 := fun e => c139 (by rw [w3, e]; rfl)
              refine key (129 + w) w3 (by omega) (Or.inr (by rw [← w3]; exact g133)) ?_
              rw [if_neg q, if_neg q, w3]
              refine Or.inr (Or.inl ⟨rfl, w - 4, by omega, ?_, by rw [show 133 + (w - 4) = 129 + w by omega]⟩)
              rw [show (133 : Int32) = ic 133 from rfl, ic_subN (by omega), show 129 + w - 133 = w - 4 by omega]
end
