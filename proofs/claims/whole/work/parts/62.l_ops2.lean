/-! THE SIMPLE CALLS, OF BOTH SIDES: shut, train -/
section
variable {u : Nat × Nat} {L : Nat} {xs : Nat → Int32} {X X' : Nat → Nat → Int32} {Z : Nat → Nat → Int64} {K : List Value → AH → Prop} {V W : Nat → Nat → Int32}
def stB (X : Nat → Nat → Int32) (s : Int32) : Bool := decide (¬ s < 0 ∧ ¬ X 1 0 - 1 ≤ s)
theorem op_shut {s : Int32} (hg : GI X) : Two u L xs 89 147 [.ref 0, .int s] [.ref 97, .int s] X Z := by
  have hg0 := GI_thr (v := 0) hg
  obtain ⟨⟨hs, hm, hw, hb, hf, nw, hn6, hn⟩, h46, htp⟩ := hg
  have hm0 : MR (sv X 97 0 0) (wz X 25) := MR_thr hm
  obtain ⟨s1, np1⟩ := Frb_SI (Frb_thr (v := 0)) hs
  have e05 : X 25 5 = (wz X 25) 0 5 := by rw [wz_at (by decide)]
  have r1 : (sv X 97 0 0) 97 10 = X 1 0 := by rw [sv_i (by decide)]; exact hs.2.1.1
  have lo := Frb_Lo (Frb_thr (X := X) (v := 0))
  have ms := fun K => m_isShut (u := u) (L := L) (xs := xs) (Z := Z) (K := K) (s := s) s1.2.1 s1.1 hm0
  simp only [lo_shu lo, lo_ns lo] at ms
  unfold Two
  simp only [en_89, w_89_0, w_89_1, w_89_4, w_89_5, w_89_8, w_89_11, w_89_12, w_89_14, w_89_17, w_89_18, w_89_19, w_89_22, w_89_25, w_89_28, w_89_31, w_89_32, w_89_35, w_89_36, c_hasStretch, ne_thr, app1, true_and, b2i_z]
  by_cases c : ¬ s < 0 ∧ ¬ X 1 0 - 1 ≤ s
  · have e1 : decide (¬ s < 0 ∧ ¬ X 1 0 - 1 ≤ s) = true := decide_eq_true c
    rw [e1]
    simp only [Bool.true_eq_false, not_false_eq_true, if_true]
    have c1 := c.1
    have c2 : s < X 1 0 - 1 := by have := c.2; rw [nle] at this; exact Classical.not_not.mp this
    simp only [en_89, w_89_0, w_89_1, w_89_4, w_89_5, w_89_8, w_89_11, w_89_12, w_89_13, w_89_14, w_89_17, w_89_18, w_89_19, w_89_22, w_89_25, w_89_28, w_89_31, w_89_32, w_89_35, w_89_36, c_isShut hs.1.2.2.2.1 hs.1.2.2.2.2.1, ne_thr, app1, true_and, b2i_z, e05]
    by_cases h : exB (shuB X s (wz X 25 0 5)) 0 (nsN X) = true
    · simp only [h, Bool.true_eq_false, if_false]
      refine ⟨1, _, rfl, rfl, ?_⟩
      simp only [en_147, w_147_0, w_147_1, w_147_2, w_147_5, w_147_6, w_147_9, w_147_10, w_147_11, w_147_14, w_147_15, w_147_16, w_147_19, w_147_20, w_147_23, w_147_24, w_147_25, w_147_28, w_147_31, w_147_32, w_147_35, w_147_36, sv_d, r1, c1, c2, if_false, if_true, ms, h, b2i_t, ne_thr, app1, true_and, show ((1 : Int32) = 0) = False by decide]
      exact ⟨_, Z, rfl, rfl, hg0⟩
    · have h' : exB (shuB X s (wz X 25 0 5)) 0 (nsN X) = false := by simpa using h
      simp only [h', if_true]
      refine ⟨0, _, rfl, rfl, ?_⟩
      simp only [en_147, w_147_0, w_147_1, w_147_2, w_147_5, w_147_6, w_147_9, w_147_10, w_147_11, w_147_14, w_147_15, w_147_16, w_147_19, w_147_20, w_147_23, w_147_24, w_147_25, w_147_28, w_147_31, w_147_32, w_147_35, w_147_36, sv_d, r1, c1, c2, if_false, if_true, ms, h', b2i_f, ne_thr, app1, true_and]
      exact ⟨_, Z, rfl, rfl, hg0⟩
  · have e1 : decide (¬ s < 0 ∧ ¬ X 1 0 - 1 ≤ s) = false := decide_eq_false c
    rw [e1]
    simp only [not_true_eq_false, if_false]
    refine ⟨-1, _, rfl, rfl, ?_⟩
    simp only [en_147, w_147_0, w_147_1, w_147_2, w_147_5, w_147_6, w_147_9, w_147_10, w_147_11, w_147_14, w_147_15, w_147_16, w_147_19, w_147_20, w_147_24, w_147_25, w_147_28, w_147_31, w_147_32, w_147_35, w_147_36, sv_d, r1]
    by_cases c1 : s < 0
    · simp only [c1, if_true]
      exact ⟨trivial, _, Z, rfl, rfl, hg0⟩
    · have c2 : ¬ s < X 1 0 - 1 := fun q => c ⟨c1, by rw [nle]; simpa using q⟩
      simp only [c1, c2, if_false]
      exact ⟨trivial, _, Z, rfl, rfl, hg0⟩
/-- cells of the road are put anew, of both sides -/
theorem GI_road (hg : GI X) (h1 : ∀ a, a = 0 ∨ (9 ≤ a ∧ a < 103) → a ≠ 97 → X' a = X a) (h2 : ∀ a, 105 ≤ a → (a ≤ 114 ∨ 120 ≤ a) → X' a = X a) (h97 : ∀ j, j ≠ 0 → j ≠ 10 → j ≠ 28 → X' 97 j = X 97 j) (hrd : RdOK X') (hrr : RR X') (hvi : VI (npN X') (wz X 25)) : GI X' := by
  obtain ⟨⟨hs, hm, hw, hb, hf, nw, hn6, hn⟩, h46, htp⟩ := hg
  have w25 : wz X' 25 = wz X 25 := wz_of (fun a a1 a2 => h1 a (by omega) (by omega))
  have ht : TX X' := by
    have g3 := hs.2.2
    have ek : kdF X' = kdF X := by funext i; unfold kdF; rw [h1 15 (by decide) (by decide)]
    have en : nuF X' = nuF X := by funext i; unfold nuF; rw [h1 15 (by decide) (by decide)]
    have eln : lnN X' = lnN X := by unfold lnN; rw [h1 11 (by decide) (by decide)]
    have een : enN X' = enN X := by funext l; unfold enN; rw [h1 14 (by decide) (by decide)]
    have est : stN X' = stN X := by funext l; unfold stN; rw [een]
    unfold TX cdOK dpOK at g3 ⊢
    rw [eln, est, een, ek, en, h97 38 (by decide) (by decide) (by decide), h1 11 (by decide) (by decide), h1 12 (by decide) (by decide), h1 13 (by decide) (by decide), h2 120 (by decide) (by decide), h2 121 (by decide) (by decide), h2 122 (by decide) (by decide), h2 123 (by decide) (by decide), h2 124 (by decide) (by decide), h2 125 (by decide) (by decide)]
    exact g3
  refine ⟨⟨⟨hrd, hrr, ht⟩, ?_, ?_, by rw [w25]; exact hb, by rw [w25]; exact hf, nw, hn6, by rw [w25]; exact hn⟩, ?_, ?_⟩
  · rw [w25]
    exact MR_same (h97 23 (by decide) (by decide) (by decide)) (h97 13 (by decide) (by decide) (by decide)) (h97 18 (by decide) (by decide) (by decide)) (fun a a1 a2 => h2 a (by omega) (by omega)) (fun i _ => by rw [h2 113 (by decide) (by decide)]) hm
  · rw [w25]
    exact ⟨hw.1, hvi, hw.2.2.1, hw.2.2.2⟩
  · rw [h97 46 (by decide) (by decide) (by decide), h1 0 (by decide) (by decide)]; exact h46
  · exact TP_of (h97 2 (by decide) (by decide) (by decide)) (h1 9 (by decide) (by decide)) (h1 10 (by decide) (by decide)) (h1 98 (by decide) (by decide)) htp
def trB (X : Nat → Nat → Int32) (k p m : Int32) : Bool := decide ((¬ k < 0 ∧ ¬ 7 < k) ∧ (¬ p < 0 ∧ ¬ X 1 0 ≤ p) ∧ (¬ m < 0 ∧ ¬ 600 < m))
theorem k7 {k : Int32} (h : ¬ k < 0 ∧ ¬ 7 < k) : ∃ n, k = ic n ∧ n < 8 := by
  obtain ⟨q1, q2⟩ := ic_of h.1
  have := h.2
  rw [q1, show (7 : Int32) = ic 7 from rfl, ic_lt (by omega) q2] at this
  exact ⟨_, q1, by omega⟩
theorem c_train_no {k p m : Int32} (h : trB X k p m = false) : Call 79 [.ref 0, .int k, .int p, .int m] (hX u L xs X Z) K ↔ K [.int 0] (hX u L xs X Z) := by
  unfold trB at h
  rw [decide_eq_false_iff_not] at h
  simp only [en_79, w_79_0, w_79_1, w_79_2, w_79_4, w_79_7, w_79_10, w_79_11, w_79_14, w_79_15, w_79_18, w_79_21, w_79_22, w_79_23, w_79_26, w_79_29, w_79_32, w_79_33, w_79_35, w_79_38, w_79_39, w_79_40, w_79_41, w_79_44, w_79_45, c_within, c_hasPlace, ne_thr, app1, true_and, b2i_z, zb0]
  by_cases c1 : ¬ k < 0 ∧ ¬ 7 < k
  · by_cases c2 : ¬ p < 0 ∧ ¬ X 1 0 ≤ p
    · have c3 : ¬ (¬ m < 0 ∧ ¬ 600 < m) := fun q => h ⟨c1, c2, q⟩
      rw [decide_eq_true c1, decide_eq_true c2, decide_eq_false c3]
      simp
    · rw [decide_eq_true c1, decide_eq_false c2]
      simp
  · rw [decide_eq_false c1]
    simp
theorem c_train {n : Nat} {p m : Int32} (hn : n < 8) (h : trB X (ic n) p m = true) : Call 79 [.ref 0, .int (ic n), .int p, .int m] (hX u L xs X Z) K ↔ K [.int 1] (hX u L xs (sv (sv X 7 n p) 8 n m) Z) := by
  unfold trB at h
  rw [decide_eq_true_eq] at h
  obtain ⟨c1, c2, c3⟩ := h
  have e1 := decide_eq_true c1
  have e2 := decide_eq_true c2
  have e3 := decide_eq_true c3
  have e8 : (8 ≤ n) = False := eq_false (by omega)
  have e9 : (n < 8) = True := eq_true hn
  simp (disch := first | assumption | omega) only [en_79, w_79_0, w_79_1, w_79_2, w_79_4, w_79_7, w_79_10, w_79_11, w_79_14, w_79_15, w_79_18, w_79_21, w_79_22, w_79_23, w_79_26, w_79_29, w_79_32, w_79_33, w_79_35, w_79_38, w_79_39, w_79_40, w_79_41, w_79_44, w_79_45, c_within, c_hasPlace, ne_thr, app1, true_and, e1, e2, e3, b2i_t, show ((1 : Int32) = 0) = False by decide, if_false, not_false_eq_true, if_true]
  simp (disch := first | assumption | omega) only [en_79, w_79_0, w_79_1, w_79_2, w_79_4, w_79_7, w_79_10, w_79_11, w_79_14, w_79_15, w_79_18, w_79_21, w_79_22, w_79_23, w_79_26, w_79_29, w_79_32, w_79_33, w_79_34, w_79_35, w_79_38, w_79_39, w_79_40, w_79_41, w_79_44, w_79_45, en_38, w_38_0, w_38_1, w_38_4, w_38_5, w_38_7, w_38_10, w_38_11, w_38_14, w_38_15, w_38_16, w_38_17, w_38_18, w_38_21, w_38_22, w_38_23, w_38_24, ic_neg, if_false, show (8 : Int32) = ic 8 from rfl, ic_le, e8, inB_ic, ic_clamp, e9, true_and, sv_d, ne_thr0, app0, zb1]
theorem m_isPlace {p : Int32} (h10 : X 97 10 = V 1 0) : Call 109 [.ref 97, .int p] (hX u L xs X Z) K ↔ K [.int (b2i (decide (¬ p < 0 ∧ ¬ V 1 0 ≤ p)))] (hX u L xs X Z) := by
  simp only [en_109, w_109_0, w_109_1, w_109_4, w_109_5, w_109_6, w_109_9, w_109_12, w_109_13, w_109_16, w_109_17, zb0, zb1, true_and, h10]
  repeat' split
  all_goals simp_all only [b2i, nle, Bool.true_eq_false, reduceCtorEq, Classical.not_not, eq_self, Bool.decide_eq_true, imp_self, Bool.not_eq_true, decide_not, decide_true, decide_false, not_true_eq_false, not_false_eq_true, or_true, true_or, or_false, false_or, and_true, true_and, false_and, and_false, if_true, if_false, Bool.false_eq_true, reduceIte, Bool.or_true, Bool.true_or, Bool.or_false, Bool.false_or, Bool.and_true, Bool.true_and, Bool.and_false, Bool.false_and, Bool.not_true, Bool.not_false, ne_eq, iff_self, or_self, and_self]
theorem m_train_no {k p m : Int32} (hr : X 97 10 = X 1 0) (h : trB X k p m = false) : Call 114 [.ref 97, .int k, .int p, .int m] (hX u L xs X Z) K ↔ K [.int 0] (hX u L xs (sv X 97 0 0) Z) := by
  have r1 : (sv X 97 0 0) 97 10 = X 1 0 := by rw [sv_i (by decide)]; exact hr
  unfold trB at h
  rw [decide_eq_false_iff_not] at h
  simp only [en_114, w_114_0, w_114_1, w_114_2, w_114_5, w_114_6, w_114_9, w_114_10, w_114_12, w_114_15, w_114_16, w_114_17, w_114_20, w_114_23, w_114_24, w_114_27, w_114_28, w_114_31, w_114_34, w_114_35, w_114_37, w_114_40, w_114_41, w_114_42, w_114_43, w_114_44, w_114_47, w_114_48, w_114_49, w_114_50, w_114_51, sv_d, m_isPlace (V := X) r1, ne_thr, app1, true_and, b2i_z, zb0]
  by_cases c1 : k < 0
  · simp [c1]
  · by_cases c1' : 7 < k
    · simp [c1, c1']
    · by_cases c2 : ¬ p < 0 ∧ ¬ X 1 0 ≤ p
      · rw [decide_eq_true c2]
        by_cases c3 : m < 0
        · simp [c1, c1', c3]
        · have c4 : 600 < m := Classical.not_not.mp (fun q => h ⟨⟨c1, c1'⟩, c2, c3, q⟩)
          simp only [c1, c1', c3, c4, nle, if_false, Bool.true_eq_false, not_true_eq_false]
      · rw [decide_eq_false c2]
        simp [c1, c1']
theorem m_train {n : Nat} {p m : Int32} (hr : X 97 10 = X 1 0) (hn : n < 8) (h : trB X (ic n) p m = true) : Call 114 [.ref 97, .int (ic n), .int p, .int m] (hX u L xs X Z) K ↔ K [.int 1] (hX u L xs (sv (sv (sv X 97 0 0) 115 n p) 116 n m) Z) := by
  have r1 : (sv X 97 0 0) 97 10 = X 1 0 := by rw [sv_i (by decide)]; exact hr
  unfold trB at h
  rw [decide_eq_true_eq] at h
  obtain ⟨c1, c2, c3⟩ := h
  have e2 := decide_eq_true c2
  have e9 : (n < 8) = True := eq_true hn
  have f1 := c1.1
  have f2 := c1.2
  have f3 := c3.1
  have f4 : (m ≤ 600) = True := by rw [nle]; exact eq_true c3.2
  simp (disch := first | assumption | omega) only [en_114, w_114_0, w_114_1, w_114_2, w_114_5, w_114_6, w_114_9, w_114_10, w_114_12, w_114_15, w_114_16, w_114_17, w_114_20, w_114_23, w_114_24, w_114_27, w_114_28, w_114_31, w_114_34, w_114_35, w_114_36, w_114_37, w_114_40, w_114_41, w_114_42, w_114_43, w_114_44, w_114_47, w_114_48, w_114_49, w_114_50, w_114_51, sv_d, m_isPlace (V := X) r1, ne_thr, app1, true_and, f1, f2, f3, f4, e2, b2i_t, show ((1 : Int32) = 0) = False by decide, if_false, if_true, inB_ic, ic_clamp, e9, zb1]
theorem op_train {k p m : Int32} (hg : GI X) : Two u L xs 79 114 [.ref 0, .int k, .int p, .int m] [.ref 97, .int k, .int p, .int m] X Z := by
  have r1 := hg.1.1.2.1.1
  unfold Two
  by_cases c : trB X k p m = true
  · have c' := c
    unfold trB at c'
    rw [decide_eq_true_eq] at c'
    obtain ⟨n, rfl, hn⟩ := k7 c'.1
    rw [c_train hn c]
    refine ⟨1, _, rfl, rfl, ?_⟩
    have cc : ∀ a, a ≠ 7 → a ≠ 8 → (sv (sv X 7 n p) 8 n m) a = X a := fun a h1 h2 => by rw [sv_a h2, sv_a h1]
    have tb : trB (sv (sv X 7 n p) 8 n m) (ic n) p m = true := by
      unfold trB at c ⊢
      rw [cc 1 (by decide) (by decide)]; exact c
    rw [m_train (by rw [cc 97 (by decide) (by decide), cc 1 (by decide) (by decide)]; exact r1) hn tb]
    refine ⟨rfl, _, Z, rfl, rfl, ?_⟩
    generalize hY : sv (sv (sv (sv (sv X 7 n p) 8 n m) 97 0 0) 115 n p) 116 n m = Y
    have ca : ∀ a, a ≠ 7 → a ≠ 8 → a ≠ 97 → a ≠ 115 → a ≠ 116 → Y a = X a := fun a h1 h2 h3 h4 h5 => by rw [← hY, sv_a h5, sv_a h4, sv_a h3, sv_a h2, sv_a h1]
    have c97 : ∀ j, j ≠ 0 → Y 97 j = X 97 j := fun j hj => by rw [← hY, sv_a (by decide), sv_a (by decide), sv_i hj, sv_a (by decide), sv_a (by decide)]
    have enp : npN Y = npN X := by unfold npN; rw [ca 1 (by decide) (by decide) (by decide) (by decide) (by decide)]
    refine GI_road hg (fun a h1 h2 => ca a (by omega) (by omega) h2 (by omega) (by omega)) (fun a h1 h2 => ca a (by omega) (by omega) (by omega) (by omega) (by omega)) (fun j h0 _ _ => c97 j h0) ?_ ?_ (by rw [enp]; exact hg.1.2.2.1.2.1)
    · have g := hg.1.1.1
      have ens : nsN Y = nsN X := by unfold nsN; rw [ca 1 (by decide) (by decide) (by decide) (by decide) (by decide)]
      have eln : lnN Y = lnN X := by unfold lnN; rw [ca 11 (by decide) (by decide) (by decide) (by decide) (by decide)]
      have esz : szN Y = szN X := by unfold szN; rw [ca 11 (by decide) (by decide) (by decide) (by decide) (by decide)]
      have een : enN Y = enN X := by funext l; unfold enN; rw [ca 14 (by decide) (by decide) (by decide) (by decide) (by decide)]
      unfold RdOK RuOK at g ⊢
      rw [enp, ens, eln, esz, een, ca 1 (by decide) (by decide) (by decide) (by decide) (by decide), ca 2 (by decide) (by decide) (by decide) (by decide) (by decide), ca 11 (by decide) (by decide) (by decide) (by decide) (by decide), ca 14 (by decide) (by decide) (by decide) (by decide) (by decide)]
      exact g
    · have g := hg.1.1.2.1
      have y7 : ∀ i, Y 7 i = if i = n then p else X 7 i := fun i => by
        rw [← hY, sv_a (by decide), sv_a (by decide), sv_a (by decide), sv_a (by decide), sv_at]; simp
      have y8 : ∀ i, Y 8 i = if i = n then m else X 8 i := fun i => by
        rw [← hY, sv_a (by decide), sv_a (by decide), sv_a (by decide), sv_at, sv_a (by decide)]; simp
      have y115 : ∀ i, Y 115 i = if i = n then p else X 115 i := fun i => by
        rw [← hY, sv_a (by decide), sv_at, sv_a (by decide), sv_a (by decide), sv_a (by decide)]; simp
      have y116 : ∀ i, Y 116 i = if i = n then m else X 116 i := fun i => by
        rw [← hY, sv_at, sv_a (by decide), sv_a (by decide), sv_a (by decide), sv_a (by decide)]; simp
      obtain ⟨t1, t2, t3, t4, t5, t6, t7, t8, t9⟩ := g
      unfold RR
      rw [c97 10 (by decide), c97 28 (by decide), ca 1 (by decide) (by decide) (by decide) (by decide) (by decide), ca 2 (by decide) (by decide) (by decide) (by decide) (by decide), ca 3 (by decide) (by decide) (by decide) (by decide) (by decide), ca 4 (by decide) (by decide) (by decide) (by decide) (by decide), ca 5 (by decide) (by decide) (by decide) (by decide) (by decide), ca 6 (by decide) (by decide) (by decide) (by decide) (by decide), ca 103 (by decide) (by decide) (by decide) (by decide) (by decide), ca 104 (by decide) (by decide) (by decide) (by decide) (by decide), ca 117 (by decide) (by decide) (by decide) (by decide) (by decide), ca 118 (by decide) (by decide) (by decide) (by decide) (by decide), ca 119 (by decide) (by decide) (by decide) (by decide) (by decide)]
      refine ⟨t1, t2, t3, t4, fun i hi => ?_, fun i hi => ?_, t7, t8, t9⟩
      · rw [y115, y7, t5 i hi]
      · rw [y116, y8, t6 i hi]
  · have c' : trB X k p m = false := by simpa using c
    rw [c_train_no c']
    refine ⟨0, _, rfl, rfl, ?_⟩
    rw [m_train_no r1 c']
    exact ⟨rfl, _, Z, rfl, rfl, GI_thr hg⟩
end
