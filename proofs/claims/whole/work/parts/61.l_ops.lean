/-! THE SIMPLE CALLS, OF BOTH SIDES: shift, shut, train, snow -/
section
variable {u : Nat × Nat} {L : Nat} {xs : Nat → Int32} {X X' : Nat → Nat → Int32} {Z : Nat → Nat → Int64} {K : List Value → AH → Prop} {V W : Nat → Nat → Int32}
theorem op_shift {r m : Int32} (hg : GI X) : Two u L xs 86 144 [.ref 0, .int r, .int m] [.ref 97, .int r, .int m] X Z := by
  have hg' := hg
  obtain ⟨⟨hs, hm, hw, hb, hf, nw, hn6, hn⟩, h46, htp⟩ := hg
  have hm0 : MR (sv X 97 0 0) (wz X 25) := MR_thr hm
  have h23 := hm0.1
  have no : ahB (wz X 25) r = false ∨ moB (wz X 25) m = false → Two u L xs 86 144 [.ref 0, .int r, .int m] [.ref 97, .int r, .int m] X Z := by
    intro h
    unfold Two
    have hc : Call 86 [.ref 0, .int r, .int m] (hX u L xs X Z) (fun rv h1 => ∃ v Y, rv = [.int v] ∧ h1 = hX u L xs Y Z ∧ Call 144 [.ref 97, .int r, .int m] (hX u L xs Y Z) (fun rv2 h2 => rv2 = [.int v] ∧ ∃ X' Z', h2 = hX u L xs X' Z' ∧ Z' 102 = Z 102 ∧ GI X')) ↔ Call 144 [.ref 97, .int r, .int m] (hX u L xs X Z) (fun rv2 h2 => rv2 = [.int 0] ∧ ∃ X' Z', h2 = hX u L xs X' Z' ∧ Z' 102 = Z 102 ∧ GI X') := by
      simp only [en_86, w_86_0, w_86_1, w_86_4, w_86_7, w_86_8, w_86_11, w_86_14, w_86_15, w_86_16, w_86_19, w_86_22, w_86_23, w_86_25, w_86_28, w_86_31, w_86_34, w_86_35, w_86_36, w_86_37, w_86_38, c_isAhead hw.1, c_maySetOut, ne_thr, app1, true_and, b2i_z, zb0]
      have fin : (∃ v Y, [Value.int 0] = [.int v] ∧ hX u L xs X Z = hX u L xs Y Z ∧ Call 144 [.ref 97, .int r, .int m] (hX u L xs Y Z) (fun rv2 h2 => rv2 = [.int v] ∧ ∃ X' Z', h2 = hX u L xs X' Z' ∧ Z' 102 = Z 102 ∧ GI X')) ↔ Call 144 [.ref 97, .int r, .int m] (hX u L xs X Z) (fun rv2 h2 => rv2 = [.int 0] ∧ ∃ X' Z', h2 = hX u L xs X' Z' ∧ Z' 102 = Z 102 ∧ GI X') := by
        constructor
        · rintro ⟨v, Y, e, e2, w⟩; cases e; rw [← e2] at w; exact w
        · intro w; exact ⟨0, _, rfl, rfl, w⟩
      by_cases e1 : ahB (wz X 25) r = true
      · have e2 : moB (wz X 25) m = false := h.resolve_left (by rw [e1]; decide)
        simp only [e1, e2, Bool.true_eq_false, if_false, not_true_eq_false]
        exact fin
      · simp only [show ahB (wz X 25) r = false by simpa using e1, if_true]
        exact fin
    rw [hc]
    have res : ([Value.int 0] = [.int 0] ∧ ∃ X' Z', hX u L xs (sv X 97 0 0) Z = hX u L xs X' Z' ∧ Z' 102 = Z 102 ∧ GI X') := ⟨rfl, _, Z, rfl, rfl, GI_thr hg'⟩
    simp only [en_144, w_144_0, w_144_1, w_144_2, w_144_5, w_144_6, w_144_7, w_144_10, w_144_13, w_144_14, w_144_17, w_144_18, w_144_19, w_144_20, w_144_21, w_144_24, w_144_25, w_144_26, w_144_29, w_144_32, w_144_33, w_144_36, w_144_39, w_144_40, w_144_41, w_144_42, w_144_45, w_144_46, w_144_47, w_144_48, sv_d, m_isRun hm0, ne_thr, app1, true_and, b2i_z, zb0]
    by_cases c1 : ¬ r < 0 ∧ ¬ (wz X 25) 1 0 ≤ r
    · obtain ⟨n, rfl, hn'⟩ := ah_N hw.1 c1.1 c1.2
      have h12 := hw.1.2.1
      have en : (n < 392) = True := eq_true (by omega)
      have e1 : decide (¬ ic n < 0 ∧ ¬ (wz X 25) 1 0 ≤ ic n) = true := decide_eq_true c1
      rw [e1]
      simp (disch := first | assumption | omega) only [Bool.true_eq_false, if_false, a0, a12, a24, a36, a48, a60, a72, a152, a232, a312, ic_clamp, inB_ic, en, true_and, m6 hm0, h23, nle, Classical.not_not]
      by_cases c2 : (wz X 25) 6 n = 0
      · have a1 : ahB (wz X 25) (ic n) = true := by unfold ahB; rw [decide_eq_true_eq, ic_clamp (by omega)]; exact ⟨c1.1, c1.2, c2⟩
        have a2 : moB (wz X 25) m = false := h.resolve_left (by rw [a1]; decide)
        unfold moB at a2
        rw [decide_eq_false_iff_not] at a2
        by_cases c3 : (wz X 25) 0 5 < m
        · have c4 : 400 < m := Classical.not_not.mp (fun q => a2 ⟨c3, q⟩)
          simp only [c2, c3, c4, not_true_eq_false, if_false, if_true]
          exact res.2
        · simp only [c2, c3, not_true_eq_false, not_false_eq_true, if_false, if_true]
          exact res.2
      · simp only [c2, not_false_eq_true, if_true]
        exact res.2
    · have e1 : decide (¬ r < 0 ∧ ¬ (wz X 25) 1 0 ≤ r) = false := decide_eq_false c1
      simp only [e1, if_true]
      exact res.2
  by_cases e1 : ahB (wz X 25) r = true
  · by_cases e2 : moB (wz X 25) m = true
    · have e1' := e1
      have e2' := e2
      unfold ahB at e1'
      unfold moB at e2'
      rw [decide_eq_true_eq] at e1' e2'
      obtain ⟨n, rfl, hn'⟩ := ah_N hw.1 e1'.1 e1'.2.1
      have h12 := hw.1.2.1
      have hn12 : n < 12 := by omega
      rw [ic_clamp (by omega)] at e1'
      have en : (n < 392) = True := eq_true (by omega)
      have e12 : (n < 12) = True := eq_true hn12
      unfold Two
      simp (disch := first | assumption | omega) only [en_86, w_86_0, w_86_1, w_86_4, w_86_7, w_86_8, w_86_11, w_86_14, w_86_15, w_86_16, w_86_19, w_86_22, w_86_23, w_86_24, w_86_25, w_86_28, w_86_31, w_86_34, w_86_35, w_86_36, w_86_37, w_86_38, c_isAhead hw.1, c_maySetOut, e1, e2, b2i_t, show ((1 : Int32) = 0) = False by decide, ne_thr, app1, true_and, if_false, not_false_eq_true, if_true, inB_ic, ic_clamp, e12, sv_d, zb1]
      refine ⟨1, _, rfl, rfl, ?_⟩
      have hmY : MR (sv X 30 n m) (wz X 25) := MR_hi (fun a ha => sv_a (by omega)) hm
      have hmY0 : MR (sv (sv X 30 n m) 97 0 0) (wz X 25) := MR_thr hmY
      have h23Y := hmY0.1
      have e3 : decide (¬ ic n < 0 ∧ ¬ (wz X 25) 1 0 ≤ ic n) = true := decide_eq_true ⟨e1'.1, e1'.2.1⟩
      have c2 := e1'.2.2
      have c3 : (m ≤ (wz X 25) 0 5) = False := by rw [nle]; simpa using e2'.1
      have c4 : (m ≤ 400) = True := by rw [nle]; exact eq_true e2'.2
      simp (disch := first | assumption | omega) only [en_144, w_144_0, w_144_1, w_144_2, w_144_5, w_144_6, w_144_7, w_144_10, w_144_13, w_144_14, w_144_17, w_144_18, w_144_19, w_144_20, w_144_21, w_144_24, w_144_25, w_144_26, w_144_29, w_144_32, w_144_33, w_144_36, w_144_39, w_144_40, w_144_41, w_144_42, w_144_45, w_144_46, w_144_47, w_144_48, w_144_49, sv_d, m_isRun hmY0, ne_thr, app1, true_and, e3, b2i_t, show ((1 : Int32) = 0) = False by decide, zb1, if_false, a0, a12, a24, a36, a48, a60, a72, a152, a232, a312, ic_clamp, inB_ic, en, e12, m6 hmY0, c2, not_true_eq_false, h23Y, c3, c4, if_true]
      refine ⟨_, Z, rfl, rfl, ?_⟩
      have w25 : wz (sv (sv (sv X 30 n m) 97 0 0) 106 n m) 25 = T5 n m (wz X 25) := by
        rw [wz_of (X := sv X 30 n m) (fun a h1 h2 => by rw [sv_a (by omega), sv_a (by omega)])]
        exact wz_sv (w := 25) (a := 5) (by decide)
      have loY : Lo X (sv (sv (sv X 30 n m) 97 0 0) 106 n m) := fun a ha => by rw [sv_a (by omega), sv_a (by omega), sv_a (by omega)]
      have c97 : ∀ j, j ≠ 0 → (sv (sv (sv X 30 n m) 97 0 0) 106 n m) 97 j = X 97 j := fun j hj => by rw [sv_a (by decide), sv_i hj, sv_a (by decide)]
      have cc : ∀ a, a ≠ 30 → a ≠ 97 → a ≠ 106 → (sv (sv (sv X 30 n m) 97 0 0) 106 n m) a = X a := fun a h1 h2 h3 => by rw [sv_a h3, sv_a h2, sv_a h1]
      obtain ⟨sY, npY⟩ := SI_sm loY (c97 10 (by decide)) (c97 28 (by decide)) (c97 38 (by decide)) (fun a ha => cc a (by omega) (by omega) (by omega)) hs
      refine ⟨⟨sY, by rw [w25]; exact u5 hmY0 hn12, by rw [w25, npY]; exact t5_WI hw, fun i hi => by rw [w25, t5_a (by decide)]; exact hb i hi, by rw [w25]; exact FL_of (t5_a (by decide)) (t5_a (by decide)) hf, nw, hn6, by rw [w25, t5_a (by decide)]; exact hn⟩, ?_, ?_⟩
      · rw [c97 46 (by decide), cc 0 (by decide) (by decide) (by decide)]; exact h46
      · exact TP_of (c97 2 (by decide)) (cc 9 (by decide) (by decide) (by decide)) (cc 10 (by decide) (by decide) (by decide)) (cc 98 (by decide) (by decide) (by decide)) htp
    · exact no (Or.inr (by simpa using e2))
  · exact no (Or.inl (by simpa using e1))
end
