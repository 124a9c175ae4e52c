/-! TEXT: sums and expressions of the model follow the functions -/
section
variable {u : Nat × Nat} {L : Nat} {xs : Nat → Int32} {X X' : Nat → Nat → Int32} {Z Z' : Nat → Nat → Int64} {K : List Value → AH → Prop} {V W : Nat → Nat → Int32} {Kd Nu : Nat → Int32} {nt nx b c0 : Nat} {O0 V0 S0 : Nat → Int32} {l1 : Value} {Q : List Value → AH → Prop}
section
variable {g : MG} {σ : PS} {δ d : Nat}
/-- nothing waits in the sum -/
theorem g_0_43 (hd : d < 7) (hf : g.1.2.1 = 0) (he : g.1.2.2.2 = d) (ha : g.2.2.2.1 d = 0) (h : pG u L xs X Z l1 Q 43 g) : pG u L xs X Z l1 Q 0 g := by
  have e7 : (d < 7) = True := eq_true hd
  unfold pG at h ⊢
  rw [w_124_0]
  simp (disch := first | assumption | omega) only [w_124_1, w_124_4, gS_8, hf, not_true_eq_false, if_false, w_124_7, w_124_8, w_124_11, w_124_12, gS_41, he, w_124_15, inB_ic, ic_clamp, e7, true_and, gS_126, ha, w_124_16, if_true]
  exact h
/-- a sign waits in the sum: it is put -/
theorem g_0_em (hm : ME Kd Nu nt nx X Z) (hd : d < 7) (hf : g.1.2.1 = 0) (he : g.1.2.2.2 = d) (ha : g.2.2.2.1 d ≠ 0) (hc : g.1.2.2.1 < 880) (h : pG u L xs X Z l1 Q 43 (gA d 0 (gEm nx (g.2.2.2.1 d) 0 g))) : pG u L xs X Z l1 Q 0 g := by
  have e7 : (d < 7) = True := eq_true hd
  have ha' : (g.2.2.2.1 d = 0) = False := eq_false ha
  have a1 : (gEm nx (g.2.2.2.1 d) 0 g).1.2.2.2 = d := he
  have a2 : (gEm nx (g.2.2.2.1 d) 0 g).2.2.2.1 = g.2.2.2.1 := rfl
  unfold pG at h ⊢
  rw [w_124_0]
  simp (disch := first | assumption | omega) only [w_124_1, w_124_4, gS_8, hf, not_true_eq_false, if_false, w_124_7, w_124_8, w_124_11, w_124_12, gS_41, he, w_124_15, inB_ic, ic_clamp, e7, true_and, gS_126, ha', w_124_16, w_124_19, w_124_20, w_124_21, w_124_24, w_124_25, w_124_28, w_124_29, w_124_30]
  rw [m_emit hm.2.1 hm.2.2.1 hc]
  refine ⟨by simp, ?_⟩
  rw [← gs_a, a2] at h
  simp (disch := first | assumption | omega) only [app0, w_124_33, w_124_34, w_124_37, w_124_38, gS_41, a1, w_124_41, w_124_42, inB_ic, ic_clamp, e7, true_and, gS_126, a2]
  exact h
/-- a plus or a minus follows -/
theorem g_43_yes (hm : ME Kd Nu nt nx X Z) (hd : d < 7) (hf : g.1.2.1 = 0) (he : g.1.2.2.2 = d) (hp : g.1.1 ≤ nt) (hk : Kd g.1.1 = 43 ∨ Kd g.1.1 = 45) (h : pA u L xs X Z l1 Q (gAt (g.1.1 + 1) (gA d (if Kd g.1.1 = 43 then 3 else 4) g))) : pG u L xs X Z l1 Q 43 g := by
  have e7 : (d < 7) = True := eq_true hd
  have i43 : isS 43 := Or.inr (Or.inr (Or.inr (Or.inr (Or.inr (Or.inl rfl)))))
  have i45 : isS 45 := Or.inr (Or.inr (Or.inr (Or.inr (Or.inr (Or.inr rfl)))))
  have k61 : WP 124 0 61 [.ref 97] [] (hX u L xs (gS X g) Z) (fun rv h' => rv ≠ [thr] ∧ WP 120 0 163 [.ref 97, l1, .int 1] (rv ++ []) h' Q) := by
    simp (disch := first | assumption | omega) only [w_124_61, w_124_62, w_124_65, w_124_66, gS_41, he, w_124_69, w_124_70, w_124_72]
    rw [m_sign0 hm i43 hf hp]
    simp only [ne_thr, app1, true_and, List.cons_append, List.nil_append, w_124_75, b2i_z]
    have a1 : ∀ v, (gA d v g).1.1 = g.1.1 := fun v => rfl
    by_cases q : Kd g.1.1 = 43
    · rw [if_pos q] at h
      rw [if_neg (by simp [q])]
      simp (disch := first | assumption | omega) only [w_124_78, w_124_79, w_124_83, inB_ic, ic_clamp, e7, true_and, gS_126, gs_a, w_124_84, w_124_85, w_124_86, gS_7, a1, w_124_89, w_124_90, ic_add1, w_124_91, gs_at, w_124_94, w_124_95, zb1]
      exact gret1 h
    · rw [if_neg q] at h
      rw [if_pos (by simp [q])]
      simp (disch := first | assumption | omega) only [w_124_82, w_124_83, inB_ic, ic_clamp, e7, true_and, gS_126, gs_a, w_124_84, w_124_85, w_124_86, gS_7, a1, w_124_89, w_124_90, ic_add1, w_124_91, gs_at, w_124_94, w_124_95, zb1]
      exact gret1 h
  unfold pG
  rw [w_124_43, w_124_44, w_124_46, m_sign0 hm i43 hf hp]
  refine ⟨by simp [thr], ?_⟩
  rw [app1, w_124_49]
  by_cases q : Kd g.1.1 = 43
  · rw [if_pos (by simp [q, b2i])]; exact k61
  · have q2 := hk.resolve_left q
    rw [if_neg (by simp [q, b2i]), w_124_52, w_124_53, w_124_55, m_sign0 hm i45 hf hp]
    refine ⟨by simp [thr], ?_⟩
    rw [app1, w_124_58, if_neg (by simp [q2, b2i])]
    exact k61
theorem g_43_no (hm : ME Kd Nu nt nx X Z) (hf : g.1.2.1 = 0) (hp : g.1.1 ≤ nt) (hk : ¬ (Kd g.1.1 = 43 ∨ Kd g.1.1 = 45)) (h : pG u L xs X Z l1 Q 96 g) : pG u L xs X Z l1 Q 43 g := by
  have i43 : isS 43 := Or.inr (Or.inr (Or.inr (Or.inr (Or.inr (Or.inl rfl)))))
  have i45 : isS 45 := Or.inr (Or.inr (Or.inr (Or.inr (Or.inr (Or.inr rfl)))))
  have n1 : ¬ Kd g.1.1 = 43 := fun z => hk (Or.inl z)
  have n2 : ¬ Kd g.1.1 = 45 := fun z => hk (Or.inr z)
  unfold pG at h ⊢
  rw [w_124_43, w_124_44, w_124_46, m_sign0 hm i43 hf hp]
  refine ⟨by simp [thr], ?_⟩
  rw [app1, w_124_49, if_neg (by simp [n1, b2i]), w_124_52, w_124_53, w_124_55, m_sign0 hm i45 hf hp]
  refine ⟨by simp [thr], ?_⟩
  rw [app1, w_124_58, if_pos (by simp [n2, b2i])]
  exact h
end
theorem sim_sumL {P : PS → Int32 × PS} {d : Nat} (hm : ME Kd Nu nt nx X Z) (h0 : ∀ i, nt ≤ i → Kd i = 0 ∧ Nu i = 0) (hcb : c0 ≤ b + 24) (hd : d ≤ 5) (hP : SimP u L xs X Z nt nx b c0 O0 V0 S0 l1 Q d P) (hG : Gd nt P) (hPr : Pr P) : ∀ n σ δ g, MM nx b c0 O0 V0 S0 σ (δ + 1) d g → okσ nt σ → σ.2.1 ≤ σ.1 → δ ≤ 3 * d + 2 → g.2.2.2.1 d = 0 → 800 ≤ σ.1 + n → ((cSumL Kd P n σ).1 = 0 → (∀ g', MM nx b c0 O0 V0 S0 (cSumL Kd P n σ).2 (δ + 1) d g' → Wt d g g' → g'.2.2.2.1 d = 0 → g'.2.2.2.2.1 d = g.2.2.2.2.1 d → g'.2.2.2.2.2 d = g.2.2.2.2.2 d → pG u L xs X Z l1 Q 96 g') → pG u L xs X Z l1 Q 43 g) ∧ ((cSumL Kd P n σ).1 ≠ 0 → (∀ g', Ft nx c0 O0 V0 X (cSumL Kd P n σ) g' → pE u L xs X Z l1 Q g') → pG u L xs X Z l1 Q 43 g) := by
  intro n
  induction n with
  | zero =>
    intro σ δ g hM ho hzp hδ ha hfu
    have h8 := hm.1
    have o1 := ho.1
    have k0 := (h0 σ.1 (by omega)).1
    refine ⟨fun _ hK => g_43_no hm hM.2.1 (by rw [hM.1]; exact o1) (by rw [hM.1, k0]; decide) (hK g hM Wt_rf ha rfl rfl), fun h => absurd rfl h⟩
  | succ n ih =>
    intro σ δ g hM ho hzp hδ ha hfu
    have h8 := hm.1
    have o1 := ho.1
    have hp : g.1.1 ≤ nt := by rw [hM.1]; exact o1
    unfold cSumL
    by_cases c : Kd σ.1 = 43 ∨ Kd σ.1 = 45
    · rw [if_pos c]
      have hn : okσ nt (nxF σ) := ok_nx h0 ho (by rcases c with q | q <;> rw [q] <;> decide)
      have M1 : MM nx b c0 O0 V0 S0 (nxF σ) (δ + 1) d (gAt (σ.1 + 1) (gA d (if Kd σ.1 = 43 then 3 else 4) g)) := MM_at (MM_a hM)
      obtain ⟨s1, s2⟩ := hP _ _ _ M1 hn (by show σ.2.1 ≤ σ.1 + 1; omega) (by omega)
      have go : pA u L xs X Z l1 Q (gAt (σ.1 + 1) (gA d (if Kd σ.1 = 43 then 3 else 4) g)) → pG u L xs X Z l1 Q 43 g := by
        intro z
        refine g_43_yes hm (by omega) hM.2.1 hM.2.2.1 hp (by rw [hM.1]; exact c) ?_
        rw [hM.1]
        exact z
      by_cases cP : (P (nxF σ)).1 = 0
      · rw [if_pos cP]
        obtain ⟨p1, p2, p3⟩ := hPr _ cP
        have oP := hG _ hn
        have n1 : (nxF σ).1 = σ.1 + 1 := rfl
        have n2 : (nxF σ).2.1 = σ.2.1 := rfl
        rw [n1, n2] at p1
        rw [n1] at p2
        have z8 : (P (nxF σ)).2.2.1 + 1 ≤ (P (nxF σ)).2.1 := by omega
        have oq := oP.1
        -- behind the second part
        have key : ∀ g', MM nx b c0 O0 V0 S0 (P (nxF σ)).2 (δ + 1 + 1) d g' → Wt (d + 1) (gAt (σ.1 + 1) (gA d (if Kd σ.1 = 43 then 3 else 4) g)) g' → (∀ g2, MM nx b c0 O0 V0 S0 (stF (Kd σ.1) 0 (P (nxF σ)).2) (δ + 1) d g2 → Wt d g g2 → g2.2.2.2.1 d = 0 → g2.2.2.2.2.1 d = g.2.2.2.2.1 d → g2.2.2.2.2.2 d = g.2.2.2.2.2 d → pG u L xs X Z l1 Q 43 g2) → pG u L xs X Z l1 Q 0 g' := by
          intro g' M' w' fin
          have wd := w' d (by omega)
          have a1 : g'.2.2.2.1 d = if Kd σ.1 = 43 then 3 else 4 := by
            rw [wd.1]
            show upd g.2.2.2.1 d (if Kd σ.1 = 43 then 3 else 4) d = _
            simp [upd]
          have m4 := M'.2.2.2.1
          have m5 := M'.2.2.2.2.1
          refine g_0_em (d := d) hm (by omega) M'.2.1 M'.2.2.1 (by rw [a1]; split <;> decide) (by omega) (fin _ ?_ ?_ ?_ ?_ ?_)
          · rcases c with q | q
            · rw [a1, if_pos q, q]
              exact MM_a (MM_em (k := 43) (m := 0) hcb M' (by omega) (by omega) (by omega) (Or.inr (Or.inr (Or.inr (Or.inl ⟨rfl, rfl⟩)))) (Or.inr ⟨by rintro (z | z) <;> exact absurd z (by decide), by omega, rfl⟩))
            · have q2 : ¬ Kd σ.1 = 43 := by rw [q]; decide
              rw [a1, if_neg q2, q]
              exact MM_a (MM_em (k := 45) (m := 0) hcb M' (by omega) (by omega) (by omega) (Or.inr (Or.inr (Or.inr (Or.inr (Or.inl ⟨rfl, rfl⟩))))) (Or.inr ⟨by rintro (z | z) <;> exact absurd z (by decide), by omega, rfl⟩))
          · intro j hj
            obtain ⟨v1, v2, v3⟩ := w' j (by omega)
            refine ⟨?_, v2, v3⟩
            show upd g'.2.2.2.1 d 0 j = g.2.2.2.1 j
            simp only [upd]
            rw [if_neg (by omega), v1]
            show upd g.2.2.2.1 d _ j = g.2.2.2.1 j
            simp only [upd]
            rw [if_neg (by omega)]
          · show upd g'.2.2.2.1 d 0 d = 0
            simp [upd]
          · exact wd.2.1
          · exact wd.2.2
        obtain ⟨st1, st2, st3⟩ := st_b (k := Kd σ.1) (v := 0) (σ := (P (nxF σ)).2)
        refine ⟨fun h1 hK => go (s1 cP (fun g' M' w' => key g' M' w' (fun g2 M2 w2 e1 e2 e3 => (ih _ δ g2 M2 (ok_st oP) (by omega) hδ e1 (by omega)).1 h1 (fun g3 M3 w3 f1 f2 f3 => hK g3 M3 (Wt_tr w2 w3) f1 (f2.trans e2) (f3.trans e3))))), fun h1 hK => go (s1 cP (fun g' M' w' => key g' M' w' (fun g2 M2 w2 e1 e2 e3 => (ih _ δ g2 M2 (ok_st oP) (by omega) hδ e1 (by omega)).2 h1 hK)))⟩
      · rw [if_neg cP]
        refine ⟨fun h => absurd h cP, fun _ hK => go (s2 cP (fun g' f' => hK g' ?_))⟩
        obtain ⟨q1, q2⟩ := f'
        refine ⟨?_, q2⟩
        rw [q1]
        show _ = (P (nxF σ)).1 + 16 * X 100 (stF (Kd σ.1) 0 (P (nxF σ)).2).1
        rw [st_b.1]
    · rw [if_neg c]
      exact ⟨fun _ hK => g_43_no hm hM.2.1 hp (by rw [hM.1]; exact c) (hK g hM Wt_rf ha rfl rfl), fun h => absurd rfl h⟩
theorem sim_sum {P : PS → Int32 × PS} {d : Nat} (hm : ME Kd Nu nt nx X Z) (h0 : ∀ i, nt ≤ i → Kd i = 0 ∧ Nu i = 0) (hcb : c0 ≤ b + 24) (hd : d ≤ 5) (hP : SimP u L xs X Z nt nx b c0 O0 V0 S0 l1 Q d P) (hG : Gd nt P) (hPr : Pr P) : SimS u L xs X Z nt nx b c0 O0 V0 S0 l1 Q d (cSum Kd P) := by
  intro σ δ g hM ho hzp hδ ha
  obtain ⟨s1, s2⟩ := hP σ δ g hM ho hzp (by omega)
  unfold cSum
  by_cases cP : (P σ).1 = 0
  · rw [if_pos cP]
    obtain ⟨p1, p2, p3⟩ := hPr _ cP
    have oP := hG _ ho
    have go : ∀ g', MM nx b c0 O0 V0 S0 (P σ).2 (δ + 1) d g' → Wt (d + 1) g g' → pG u L xs X Z l1 Q 43 g' → pG u L xs X Z l1 Q 0 g' := by
      intro g' M' w' z
      exact g_0_43 (d := d) (by omega) M'.2.1 M'.2.2.1 (by rw [(w' d (by omega)).1]; exact ha) z
    refine ⟨fun h1 hK => s1 cP (fun g' M' w' => go g' M' w' ?_), fun h1 hK => s1 cP (fun g' M' w' => go g' M' w' ?_)⟩
    · refine (sim_sumL hm h0 hcb hd hP hG hPr 799 _ δ g' M' oP (by omega) hδ (by rw [(w' d (by omega)).1]; exact ha) (by omega)).1 h1 (fun g2 M2 w2 e1 e2 e3 => hK g2 M2 (Wt_tr (Wt_le (by omega) w') w2) e1 (e2.trans (w' d (by omega)).2.1) (e3.trans (w' d (by omega)).2.2))
    · exact (sim_sumL hm h0 hcb hd hP hG hPr 799 _ δ g' M' oP (by omega) hδ (by rw [(w' d (by omega)).1]; exact ha) (by omega)).2 h1 hK
  · rw [if_neg cP]
    exact ⟨fun h => absurd h cP, fun _ hK => s2 cP hK⟩
end
