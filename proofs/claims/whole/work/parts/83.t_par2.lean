/-! TEXT: the class's reader follows the functions -/
section
variable {u : Nat × Nat} {L : Nat} {xs : Nat → Int32} {X X' : Nat → Nat → Int32} {Z Z' : Nat → Nat → Int64} {K : List Value → AH → Prop} {V W : Nat → Nat → Int32} {Kd Nu : Nat → Int32} {nt : Nat}
theorem dp30 {k d : Nat} (hk : k = 30 ∨ k = 31 ∨ k = 32) (hd : d < 2147483648) : dep k [.ref 16, .int (ic d)] = d := by
  unfold dep
  rw [if_pos hk]
  exact ic_clamp hd
theorem w_30_21 {d : Nat} {l0 l1 l2 l3 l4 l5 : Value} {Q : List Value → AH → Prop} (hd : d ≤ 5) : WP 30 d 21 [l0, l1, l2, l3, l4, l5] [.int (ic d), .ref 16] (hX u L xs X Z) Q ↔ Call 31 [.ref 16, .int (ic d)] (hX u L xs X Z) (fun rv h' => rv ≠ [thr] ∧ WP 30 d 24 [l0, l1, l2, l3, l4, l5] (rv ++ []) h' Q) := w_callV (k' := 31) (as := [.ref 16, .int (ic d)]) (r := []) (show decode (mCode 30) 21 = .ok (.invokevirtual 110, 3) by decide +kernel) (by decide +kernel) rfl rfl (Nat.le_of_ble_eq_true rfl) rfl rfl rfl (Nat.le_of_ble_eq_true rfl) (by rw [dp30 (by decide) (by omega)]; unfold rk; simp)
theorem w_30_61 {d : Nat} {l0 l1 l2 l3 l4 l5 : Value} {Q : List Value → AH → Prop} (hd : d ≤ 5) : WP 30 d 61 [l0, l1, l2, l3, l4, l5] [.int (ic d), .ref 16] (hX u L xs X Z) Q ↔ Call 31 [.ref 16, .int (ic d)] (hX u L xs X Z) (fun rv h' => rv ≠ [thr] ∧ WP 30 d 64 [l0, l1, l2, l3, l4, l5] (rv ++ []) h' Q) := w_callV (k' := 31) (as := [.ref 16, .int (ic d)]) (r := []) (show decode (mCode 30) 61 = .ok (.invokevirtual 110, 3) by decide +kernel) (by decide +kernel) rfl rfl (Nat.le_of_ble_eq_true rfl) rfl rfl rfl (Nat.le_of_ble_eq_true rfl) (by rw [dp30 (by decide) (by omega)]; unfold rk; simp)
theorem w_31_2 {d : Nat} {l0 l1 l2 l3 l4 : Value} {Q : List Value → AH → Prop} (hd : d ≤ 5) : WP 31 d 2 [l0, l1, l2, l3, l4] [.int (ic d), .ref 16] (hX u L xs X Z) Q ↔ Call 32 [.ref 16, .int (ic d)] (hX u L xs X Z) (fun rv h' => rv ≠ [thr] ∧ WP 31 d 5 [l0, l1, l2, l3, l4] (rv ++ []) h' Q) := w_callV (k' := 32) (as := [.ref 16, .int (ic d)]) (r := []) (show decode (mCode 31) 2 = .ok (.invokevirtual 116, 3) by decide +kernel) (by decide +kernel) rfl rfl (Nat.le_of_ble_eq_true rfl) rfl rfl rfl (Nat.le_of_ble_eq_true rfl) (by rw [dp30 (by decide) (by omega)]; unfold rk; simp)
theorem w_31_53 {d : Nat} {l0 l1 l2 l3 l4 : Value} {Q : List Value → AH → Prop} (hd : d ≤ 5) : WP 31 d 53 [l0, l1, l2, l3, l4] [.int (ic d), .ref 16] (hX u L xs X Z) Q ↔ Call 32 [.ref 16, .int (ic d)] (hX u L xs X Z) (fun rv h' => rv ≠ [thr] ∧ WP 31 d 56 [l0, l1, l2, l3, l4] (rv ++ []) h' Q) := w_callV (k' := 32) (as := [.ref 16, .int (ic d)]) (r := []) (show decode (mCode 31) 53 = .ok (.invokevirtual 116, 3) by decide +kernel) (by decide +kernel) rfl rfl (Nat.le_of_ble_eq_true rfl) rfl rfl rfl (Nat.le_of_ble_eq_true rfl) (by rw [dp30 (by decide) (by omega)]; unfold rk; simp)
theorem w_32_62 {d : Nat} {l0 l1 l2 l3 l4 : Value} {Q : List Value → AH → Prop} (hd : d < 5) : WP 32 d 62 [l0, l1, l2, l3, l4] [.int (ic (d + 1)), .ref 16] (hX u L xs X Z) Q ↔ Call 30 [.ref 16, .int (ic (d + 1))] (hX u L xs X Z) (fun rv h' => rv ≠ [thr] ∧ WP 32 d 65 [l0, l1, l2, l3, l4] (rv ++ []) h' Q) := w_callV (k' := 30) (as := [.ref 16, .int (ic (d + 1))]) (r := []) (show decode (mCode 32) 62 = .ok (.invokevirtual 103, 3) by decide +kernel) (by decide +kernel) rfl rfl (Nat.le_of_ble_eq_true rfl) rfl rfl rfl (Nat.le_of_ble_eq_true rfl) (by rw [dp30 (by decide) (by omega)]; unfold rk; simp; omega)
theorem en_30 {d : Nat} {h : AH} (hd : d ≤ 5) : Call 30 [.ref 16, .int (ic d)] h K ↔ WP 30 d 0 [.ref 16, .int (ic d), poi, poi, poi, poi] [] h K := by
  unfold Call
  rw [dp30 (by decide) (by omega)]
  exact Iff.rfl
theorem en_31 {d : Nat} {h : AH} (hd : d ≤ 5) : Call 31 [.ref 16, .int (ic d)] h K ↔ WP 31 d 0 [.ref 16, .int (ic d), poi, poi, poi] [] h K := by
  unfold Call
  rw [dp30 (by decide) (by omega)]
  exact Iff.rfl
theorem en_32 {d : Nat} {h : AH} (hd : d ≤ 5) : Call 32 [.ref 16, .int (ic d)] h K ↔ WP 32 d 0 [.ref 16, .int (ic d), poi, poi, poi] [] h K := by
  unfold Call
  rw [dp30 (by decide) (by omega)]
  exact Iff.rfl
/-- a method of the reader does what a function says -/
def Rd (u : Nat × Nat) (L : Nat) (xs : Nat → Int32) (X : Nat → Nat → Int32) (Z : Nat → Nat → Int64) (nt : Nat) (k d : Nat) (F : PS → Int32 × PS) : Prop := ∀ (σ : PS) (K : List Value → AH → Prop), okσ nt σ → (Call k [.ref 16, .int (ic d)] (hX u L xs (pS X σ) Z) K ↔ K [.int (F σ).1] (hX u L xs (pS X (F σ).2) Z))
theorem r_part {E : PS → Int32 × PS} {d : Nat} {full : Bool} (hd : d ≤ 5) (hf : full = decide (d = 5)) (hc : CE Kd Nu nt X) (hE : d < 5 → Rd u L xs X Z nt 30 (d + 1) E) (hG : Gd nt E) : Rd u L xs X Z nt 32 d (cPart Kd Nu E full) := by
  intro σ K ho
  have h0 := hc.2.2.2
  rw [en_32 hd, w_32_0, w_32_1, r_kind hc ho]
  simp only [ne_thr, app1, true_and, w_32_4, w_32_5, w_32_6, w_32_9]
  unfold cPart
  have k27 : ¬ (¬ Kd σ.1 = 128 ∧ ¬ Kd σ.1 = 40 ∧ Kd σ.1 < 133) → (WP 32 d 27 [.ref 16, .int (ic d), .int (Kd σ.1), poi, poi] [] (hX u L xs (pS X σ) Z) K ↔ K [.int (if full = true then (5, σ) else if Kd σ.1 = 40 then (if (E (nxF σ)).1 = 0 then paF Kd 41 (E (nxF σ)).2 else E (nxF σ)) else if Kd σ.1 = 139 then ((pnF Kd Nu 0 7 (nxF σ)).1, stF 139 (Nu (σ.1 + 1)) (pnF Kd Nu 0 7 (nxF σ)).2) else (0, stF (Kd σ.1) (Nu σ.1) (nxF σ))).1] (hX u L xs (pS X (if full = true then (5, σ) else if Kd σ.1 = 40 then (if (E (nxF σ)).1 = 0 then paF Kd 41 (E (nxF σ)).2 else E (nxF σ)) else if Kd σ.1 = 139 then ((pnF Kd Nu 0 7 (nxF σ)).1, stF 139 (Nu (σ.1 + 1)) (pnF Kd Nu 0 7 (nxF σ)).2) else (0, stF (Kd σ.1) (Nu σ.1) (nxF σ))).2) Z)) := by
    intro q
    have hn : okσ nt (nxF σ) := ok_nx h0 ho (fun e => q ⟨by rw [e]; decide, by rw [e]; decide, by rw [e]; decide⟩)
    have e5 : (ic d < 5) = (d < 5) := by rw [show (5 : Int32) = ic 5 from rfl, ic_lt (by omega) (by omega)]
    simp only [w_32_27, w_32_28, w_32_29, e5]
    by_cases c5 : d < 5
    · have nf : ¬ full = true := by rw [hf]; simp; omega
      rw [if_pos c5, if_neg nf, w_32_34, w_32_35, r_number hc ho]
      simp only [ne_thr, app1, true_and, w_32_38, w_32_39, w_32_40, w_32_41, w_32_44, w_32_45, pS_165, ic_add1, w_32_46, pS_nx, w_32_49, w_32_50, w_32_52, w_32_53, w_32_55]
      rw [show ((σ.1 + 1, σ.2) : PS) = nxF σ from rfl]
      by_cases c40 : Kd σ.1 = 40
      · rw [if_neg (by simp [c40]), if_pos c40]
        simp only [w_32_58, w_32_59, w_32_60, w_32_61, ic_add1]
        rw [w_32_62 c5, hE c5 _ _ hn]
        simp only [ne_thr, app1, true_and, w_32_65, w_32_67, w_32_69]
        by_cases ce : (E (nxF σ)).1 = 0
        · rw [if_pos ce, if_pos ce, w_32_77, w_32_78, w_32_80, r_pass hc (hG _ hn)]
          simp only [ne_thr, app1, true_and, w_32_83]
        · rw [if_neg ce, if_neg ce, w_32_72, w_32_74, w_32_83]
      · rw [if_pos c40, if_neg c40]
        simp only [w_32_84, w_32_85, w_32_88]
        by_cases ct : Kd σ.1 = 139
        · rw [if_neg (by simp [ct]), if_pos ct, w_32_91, w_32_92, r_number hc hn]
          simp only [ne_thr, app1, true_and, w_32_95, w_32_96, w_32_97, w_32_98, w_32_100]
          rw [r_passN hc hn]
          simp only [ne_thr, app1, true_and, w_32_103, w_32_105, w_32_106, w_32_109, w_32_110, w_32_111]
          rw [r_add (ok_pn h0 _ hn)]
          simp only [ne_thr0, app0, true_and, w_32_114, w_32_116, ct]
          rfl
        · rw [if_pos ct, if_neg ct, w_32_105, w_32_106, w_32_109, w_32_110, w_32_111, r_add hn]
          simp only [ne_thr0, app0, true_and, w_32_114, w_32_116]
    · have nf : full = true := by rw [hf]; simp; omega
      rw [if_neg c5, if_pos nf, w_32_32, w_32_33]
  by_cases c1 : Kd σ.1 = 128
  · have q : ¬ (¬ Kd σ.1 = 128 ∧ ¬ Kd σ.1 = 40 ∧ Kd σ.1 < 133) := fun z => z.1 c1
    rw [if_pos c1, if_neg q]; exact k27 q
  · rw [if_neg c1, w_32_12, w_32_13, w_32_15]
    by_cases c2 : Kd σ.1 = 40
    · have q : ¬ (¬ Kd σ.1 = 128 ∧ ¬ Kd σ.1 = 40 ∧ Kd σ.1 < 133) := fun z => z.2.1 c2
      rw [if_pos c2, if_neg q]; exact k27 q
    · rw [if_neg c2, w_32_18, w_32_19, w_32_22]
      by_cases c3 : Kd σ.1 < 133
      · have q : ¬ Kd σ.1 = 128 ∧ ¬ Kd σ.1 = 40 ∧ Kd σ.1 < 133 := ⟨c1, c2, c3⟩
        rw [if_neg (by rw [nle]; simp [c3]), if_pos q, w_32_25, w_32_26]
      · have q : ¬ (¬ Kd σ.1 = 128 ∧ ¬ Kd σ.1 = 40 ∧ Kd σ.1 < 133) := fun z => c3 z.2.2
        rw [if_pos (by rw [nle]; exact c3), if_neg q]; exact k27 q
theorem l_rsum {P : PS → Int32 × PS} {d : Nat} (hd : d ≤ 5) (hc : CE Kd Nu nt X) (hP : Rd u L xs X Z nt 32 d P) (hG : Gd nt P) : ∀ m t (σ : PS) l4, t + m = 800 → okσ nt σ → (WP 31 d 8 [.ref 16, .int (ic d), .int 0, .int (ic t), l4] [] (hX u L xs (pS X σ) Z) K ↔ K [.int (cSumL Kd P m σ).1] (hX u L xs (pS X (cSumL Kd P m σ).2) Z)) := by
  have h0 := hc.2.2.2
  intro m
  induction m with
  | zero =>
    intro t σ l4 ht ho
    have e : t = 800 := by omega
    subst e
    simp only [w_31_8, w_31_9, not_true_eq_false, if_false, w_31_12, w_31_13, w_31_16, show ((800 : Int32) ≤ ic 800) = True by decide, if_true, w_31_73, w_31_74]
    rfl
  | succ m ih =>
    intro t σ l4 ht ho
    have e1 : (800 ≤ ic t) = False := by rw [show (800 : Int32) = ic 800 from rfl, ic_le (by omega) (by omega)]; exact eq_false (by omega)
    rw [w_31_8, w_31_9, if_neg (by decide), w_31_12, w_31_13, w_31_16]
    simp only [e1, if_false, w_31_19, w_31_20, r_kind hc ho, ne_thr, app1, true_and, w_31_23, w_31_25, w_31_27, w_31_29, w_31_32, w_31_34, w_31_36, w_31_39, w_31_40]
    unfold cSumL
    have k41 : Kd σ.1 = 43 ∨ Kd σ.1 = 45 → (WP 31 d 41 [.ref 16, .int (ic d), .int 0, .int (ic t), .int (Kd σ.1)] [] (hX u L xs (pS X σ) Z) K ↔ K [.int (if (P (nxF σ)).1 = 0 then cSumL Kd P m (stF (Kd σ.1) 0 (P (nxF σ)).2) else ((P (nxF σ)).1, stF (Kd σ.1) 0 (P (nxF σ)).2)).1] (hX u L xs (pS X (if (P (nxF σ)).1 = 0 then cSumL Kd P m (stF (Kd σ.1) 0 (P (nxF σ)).2) else ((P (nxF σ)).1, stF (Kd σ.1) 0 (P (nxF σ)).2)).2) Z)) := by
      intro q
      have hn : okσ nt (nxF σ) := ok_nx h0 ho (by rcases q with q | q <;> rw [q] <;> decide)
      simp only [w_31_41, w_31_42, w_31_43, w_31_46, w_31_47, pS_165, ic_add1, w_31_48, pS_nx, w_31_51, w_31_52]
      rw [show ((σ.1 + 1, σ.2) : PS) = nxF σ from rfl, w_31_53 hd, hP _ _ hn]
      simp only [ne_thr, app1, true_and, w_31_56, w_31_57, w_31_58, w_31_61, w_31_63, w_31_64]
      rw [r_add (hG _ hn)]
      simp only [ne_thr0, app0, true_and, w_31_67, w_31_70, ic_add1]
      by_cases c : (P (nxF σ)).1 = 0
      · rw [if_pos c, c]
        exact ih (t + 1) _ _ (by omega) (ok_st (hG _ hn))
      · rw [if_neg c, w_31_8, w_31_9, if_pos c, w_31_73, w_31_74]
    by_cases c1 : Kd σ.1 = 43
    · rw [if_pos c1, if_pos (Or.inl c1)]; exact k41 (Or.inl c1)
    · rw [if_neg c1]
      by_cases c2 : Kd σ.1 = 45
      · rw [if_pos c2, if_pos (Or.inr c2)]; exact k41 (Or.inr c2)
      · rw [if_neg c2, if_neg (by simp [c1, c2])]
theorem r_sum {P : PS → Int32 × PS} {d : Nat} (hd : d ≤ 5) (hc : CE Kd Nu nt X) (hP : Rd u L xs X Z nt 32 d P) (hG : Gd nt P) : Rd u L xs X Z nt 31 d (cSum Kd P) := by
  intro σ K ho
  rw [en_31 hd, w_31_0, w_31_1, w_31_2 hd, hP _ _ ho]
  simp only [ne_thr, app1, true_and, w_31_5, w_31_6, w_31_7]
  unfold cSum
  by_cases c : (P σ).1 = 0
  · rw [if_pos c, c]
    exact l_rsum hd hc hP hG 799 1 _ _ (by omega) (hG _ ho)
  · rw [if_neg c, w_31_8, w_31_9, if_pos c, w_31_73, w_31_74]
theorem l_exp {P : PS → Int32 × PS} {d : Nat} (hd : d ≤ 5) (hc : CE Kd Nu nt X) (hP : Rd u L xs X Z nt 31 d P) (hG : Gd nt P) : ∀ m t (σ : PS) l5, t + m = 800 → okσ nt σ → (WP 30 d 7 [.ref 16, .int (ic d), .int 0, .int 1, .int (ic t), l5] [] (hX u L xs (pS X σ) Z) K ↔ K [.int (cExpL Kd P m t σ).1] (hX u L xs (pS X (cExpL Kd P m t σ).2) Z)) := by
  have h0 := hc.2.2.2
  intro m
  induction m with
  | zero =>
    intro t σ l5 ht ho
    have e : t = 800 := by omega
    subst e
    simp only [w_30_7, w_30_8, show ((1 : Int32) = 0) = False by decide, if_false, w_30_11, w_30_13, w_30_16, show ((800 : Int32) ≤ ic 800) = True by decide, if_true, w_30_135, w_30_136]
    rfl
  | succ m ih =>
    intro t σ l5 ht ho
    have e1 : (800 ≤ ic t) = False := by rw [show (800 : Int32) = ic 800 from rfl, ic_le (by omega) (by omega)]; exact eq_false (by omega)
    have e0 : (ic t ≤ 0) = (t = 0) := by rw [show (0 : Int32) = ic 0 from rfl, ic_le (by omega) (by omega), eq_iff_iff]; omega
    -- behind the test
    have k75 : ∀ (f : Int32) (ρ : PS) (l5 : Value), okσ nt ρ → (WP 30 d 75 [.ref 16, .int (ic d), .int f, .int 1, .int (ic t), l5] [] (hX u L xs (pS X ρ) Z) K ↔ K [.int (if f = 0 ∧ Kd (cAnd t ρ).1 = 132 then cExpL Kd P m (t + 1) (nxF (cAnd t ρ)) else (f, cAnd t ρ)).1] (hX u L xs (pS X (if f = 0 ∧ Kd (cAnd t ρ).1 = 132 then cExpL Kd P m (t + 1) (nxF (cAnd t ρ)) else (f, cAnd t ρ)).2) Z)) := by
      intro f ρ l5 hρ
      have ha := ok_and (t := t) hρ
      have k91 : WP 30 d 91 [.ref 16, .int (ic d), .int f, .int 1, .int (ic t), l5] [] (hX u L xs (pS X (cAnd t ρ)) Z) K ↔ K [.int (if f = 0 ∧ Kd (cAnd t ρ).1 = 132 then cExpL Kd P m (t + 1) (nxF (cAnd t ρ)) else (f, cAnd t ρ)).1] (hX u L xs (pS X (if f = 0 ∧ Kd (cAnd t ρ).1 = 132 then cExpL Kd P m (t + 1) (nxF (cAnd t ρ)) else (f, cAnd t ρ)).2) Z) := by
        generalize cAnd t ρ = τ at ha
        have no : ¬ (f = 0 ∧ Kd τ.1 = 132) → (WP 30 d 109 [.ref 16, .int (ic d), .int f, .int 1, .int (ic t), l5] [] (hX u L xs (pS X τ) Z) K ↔ K [.int (if f = 0 ∧ Kd τ.1 = 132 then cExpL Kd P m (t + 1) (nxF τ) else (f, τ)).1] (hX u L xs (pS X (if f = 0 ∧ Kd τ.1 = 132 then cExpL Kd P m (t + 1) (nxF τ) else (f, τ)).2) Z)) := by
          intro q
          rw [if_neg q]
          simp only [w_30_109, w_30_110, w_30_111, w_30_112, w_30_113, w_30_116, w_30_117, if_true, w_30_124, w_30_125, pS_165, Int32.add_zero, w_30_126, pS_nx, w_30_129, w_30_132]
          simp only [w_30_7, w_30_8, if_true, w_30_135, w_30_136]
        simp only [w_30_91, w_30_92]
        by_cases c1 : f = 0
        · rw [if_neg (by simp [c1]), w_30_95, w_30_96, r_kind hc ha]
          simp only [ne_thr, app1, true_and, w_30_99, w_30_102]
          by_cases c2 : Kd τ.1 = 132
          · rw [if_neg (by simp [c2]), if_pos ⟨c1, c2⟩]
            simp only [w_30_105, w_30_106, w_30_110, w_30_111, w_30_112, w_30_113, w_30_116, w_30_117, show ((1 : Int32) = 0) = False by decide, if_false, w_30_120, w_30_121, w_30_125, pS_165, ic_add1, w_30_126, pS_nx, w_30_129, w_30_132, c1]
            exact ih (t + 1) _ _ (by omega) (ok_nx h0 ha (by rw [c2]; decide))
          · rw [if_pos c2]; exact no (fun z => c2 z.2)
        · rw [if_pos c1]; exact no (fun z => c1 z.1)
      simp only [w_30_75, w_30_77, e0]
      by_cases c : t = 0
      · rw [if_pos c]
        have : cAnd t ρ = ρ := by unfold cAnd; rw [if_pos c]
        rw [this] at k91 ⊢
        exact k91
      · rw [if_neg c]
        have : cAnd t ρ = stF 132 0 ρ := by unfold cAnd; rw [if_neg c]
        rw [this] at k91 ⊢
        simp only [w_30_80, w_30_81, w_30_84, w_30_87, w_30_88]
        rw [r_add hρ]
        simp only [ne_thr0, app0, true_and]
        exact k91
    rw [w_30_7, w_30_8, if_neg (by decide), w_30_11, w_30_13, w_30_16]
    simp only [e1, if_false, w_30_19, w_30_20]
    rw [w_30_21 hd, hP _ _ ho]
    simp only [ne_thr, app1, true_and, w_30_24, w_30_25, w_30_26]
    rw [r_kind hc (hG _ ho)]
    simp only [ne_thr, app1, true_and, w_30_29, w_30_31, w_30_32]
    unfold cExpL
    by_cases c1 : (P σ).1 = 0
    · by_cases c2 : Kd (P σ).2.1 = 60 ∨ Kd (P σ).2.1 = 61
      · have hn : okσ nt (nxF (P σ).2) := ok_nx h0 (hG _ ho) (by rcases c2 with q | q <;> rw [q] <;> decide)
        have et : cTst Kd P σ = ((P (nxF (P σ).2)).1, stF (Kd (P σ).2.1) 0 (P (nxF (P σ).2)).2) := by unfold cTst; rw [if_pos ⟨c1, c2⟩]
        have k49 : WP 30 d 49 [.ref 16, .int (ic d), .int (P σ).1, .int 1, .int (ic t), .int (Kd (P σ).2.1)] [] (hX u L xs (pS X (P σ).2) Z) K ↔ K [.int (if (cTst Kd P σ).1 = 0 ∧ Kd (cAnd t (cTst Kd P σ).2).1 = 132 then cExpL Kd P m (t + 1) (nxF (cAnd t (cTst Kd P σ).2)) else ((cTst Kd P σ).1, cAnd t (cTst Kd P σ).2)).1] (hX u L xs (pS X (if (cTst Kd P σ).1 = 0 ∧ Kd (cAnd t (cTst Kd P σ).2).1 = 132 then cExpL Kd P m (t + 1) (nxF (cAnd t (cTst Kd P σ).2)) else ((cTst Kd P σ).1, cAnd t (cTst Kd P σ).2)).2) Z) := by
          simp only [w_30_49, w_30_50, w_30_51, w_30_54, w_30_55, pS_165, ic_add1, w_30_56, pS_nx, w_30_59, w_30_60]
          rw [show (((P σ).2.1 + 1, (P σ).2.2) : PS) = nxF (P σ).2 from rfl, w_30_61 hd, hP _ _ hn]
          simp only [ne_thr, app1, true_and, w_30_64, w_30_65, w_30_66, w_30_69, w_30_71, w_30_72]
          rw [r_add (hG _ hn)]
          simp only [ne_thr0, app0, true_and]
          rw [et]
          exact k75 _ _ _ (ok_st (hG _ hn))
        rw [if_neg (by simp [c1]), w_30_35, w_30_37, w_30_39]
        by_cases c3 : Kd (P σ).2.1 = 60
        · rw [if_pos c3]; exact k49
        · rw [if_neg c3, w_30_42, w_30_44, w_30_46, if_neg (by simp [c2.resolve_left c3])]; exact k49
      · have et : cTst Kd P σ = P σ := by unfold cTst; rw [if_neg (fun z => c2 z.2)]
        have n1 : ¬ Kd (P σ).2.1 = 60 := fun z => c2 (Or.inl z)
        have n2 : ¬ Kd (P σ).2.1 = 61 := fun z => c2 (Or.inr z)
        rw [if_neg (by simp [c1]), w_30_35, w_30_37, w_30_39, if_neg n1, w_30_42, w_30_44, w_30_46, if_pos n2, et]
        exact k75 _ _ _ (hG _ ho)
    · have et : cTst Kd P σ = P σ := by unfold cTst; rw [if_neg (fun z => c1 z.1)]
      rw [if_pos c1, et]
      exact k75 _ _ _ (hG _ ho)
theorem r_exp {P : PS → Int32 × PS} {d : Nat} (hd : d ≤ 5) (hc : CE Kd Nu nt X) (hP : Rd u L xs X Z nt 31 d P) (hG : Gd nt P) : Rd u L xs X Z nt 30 d (cExpL Kd P 800 0) := by
  intro σ K ho
  rw [en_30 hd, w_30_0, w_30_1, w_30_2, w_30_3, w_30_4, w_30_5]
  exact l_exp hd hc hP hG 800 0 σ _ (by omega) ho
theorem r_P (hc : CE Kd Nu nt X) : ∀ f d, f + d = 5 → Rd u L xs X Z nt 32 d (cP Kd Nu f) := by
  have h0 := hc.2.2.2
  intro f
  induction f with
  | zero =>
    intro d hd
    exact r_part (by omega) (by simp; omega) hc (fun h => by omega) (fun σ ho => ho)
  | succ f ih =>
    intro d hd
    exact r_part (by omega) (by simp; omega) hc (fun h => r_exp (by omega) hc (r_sum (by omega) hc (ih (d + 1) (by omega)) (ok_P h0 f)) (ok_sum h0 (ok_P h0 f))) (ok_expL h0 (ok_sum h0 (ok_P h0 f)) _ _)
def cE (Kd Nu : Nat → Int32) : PS → Int32 × PS := cExpL Kd (cSum Kd (cP Kd Nu 5)) 800 0
theorem r_E (hc : CE Kd Nu nt X) : Rd u L xs X Z nt 30 0 (cE Kd Nu) := r_exp (by omega) hc (r_sum (by omega) hc (r_P hc 5 0 rfl) (ok_P hc.2.2.2 5)) (ok_sum hc.2.2.2 (ok_P hc.2.2.2 5))
end
