/-! THE SIMPLE CALLS, OF BOTH SIDES: snow -/
section
variable {u : Nat × Nat} {L : Nat} {xs : Nat → Int32} {X X' : Nat → Nat → Int32} {Z : Nat → Nat → Int64} {K : List Value → AH → Prop} {V W : Nat → Nat → Int32}
def snB (X : Nat → Nat → Int32) (s lo hi : Int32) : Bool := decide ((¬ s < 0 ∧ ¬ X 1 0 - 1 ≤ s) ∧ ¬ lo < 1 ∧ ¬ hi < lo ∧ X 1 3 < 20)
theorem c_snow_no {s lo hi : Int32} (h : snB X s lo hi = false) : Call 80 [.ref 0, .int s, .int lo, .int hi] (hX u L xs X Z) K ↔ K [.int 0] (hX u L xs X Z) := by
  unfold snB at h
  rw [decide_eq_false_iff_not] at h
  simp only [en_80, w_80_0, w_80_1, w_80_4, w_80_5, w_80_8, w_80_11, w_80_12, w_80_13, w_80_16, w_80_17, w_80_18, w_80_21, w_80_22, w_80_25, w_80_28, w_80_30, w_80_33, w_80_34, w_80_36, w_80_39, w_80_40, w_80_41, w_80_42, w_80_45, w_80_46, c_hasStretch, ne_thr, app1, true_and, b2i_z, zb0]
  by_cases c1 : ¬ s < 0 ∧ ¬ X 1 0 - 1 ≤ s
  · rw [decide_eq_true c1]
    by_cases c2 : lo < 1
    · simp [c2]
    · by_cases c3 : hi < lo
      · simp [c2, c3]
      · have c4 : ¬ X 1 3 < 20 := fun q => h ⟨c1, c2, c3, q⟩
        simp only [c2, c3, c4, if_false, Bool.true_eq_false]
  · rw [decide_eq_false c1]
    simp
theorem c_snow {n : Nat} {s lo hi : Int32} (hn : X 1 3 = ic n) (hn20 : n < 20) (h : snB X s lo hi = true) : Call 80 [.ref 0, .int s, .int lo, .int hi] (hX u L xs X Z) K ↔ K [.int 1] (hX u L xs (sv (sv (sv (sv X 4 n s) 5 n lo) 6 n hi) 1 3 (ic (n + 1))) Z) := by
  unfold snB at h
  rw [decide_eq_true_eq] at h
  obtain ⟨c1, c2, c3, c4⟩ := h
  have e1 := decide_eq_true c1
  have e9 : (n < 20) = True := eq_true hn20
  have e8 : (20 ≤ n) = False := eq_false (by omega)
  simp (disch := first | assumption | omega) only [en_80, w_80_0, w_80_1, w_80_4, w_80_5, w_80_8, w_80_11, w_80_12, w_80_13, w_80_16, w_80_17, w_80_18, w_80_21, w_80_22, w_80_25, w_80_28, w_80_30, w_80_33, w_80_34, w_80_36, w_80_39, w_80_40, w_80_41, w_80_42, w_80_45, w_80_46, c_hasStretch, ne_thr, app1, true_and, e1, b2i_t, show ((1 : Int32) = 0) = False by decide, if_false, c2, c3, c4, if_true]
  have x1 : X 1 3 = ic n := hn
  have x2 : (sv X 4 n s) 1 3 = ic n := by rw [sv_a (by decide)]; exact hn
  have x3 : (sv (sv X 4 n s) 5 n lo) 1 3 = ic n := by rw [sv_a (by decide)]; exact x2
  have x4 : (sv (sv (sv X 4 n s) 5 n lo) 6 n hi) 1 3 = ic n := by rw [sv_a (by decide)]; exact x3
  simp (disch := first | assumption | omega) only [en_80, w_80_0, w_80_1, w_80_4, w_80_5, w_80_8, w_80_11, w_80_12, w_80_13, w_80_16, w_80_17, w_80_18, w_80_21, w_80_22, w_80_25, w_80_28, w_80_30, w_80_33, w_80_34, w_80_35, w_80_36, w_80_39, w_80_40, w_80_41, w_80_42, w_80_45, w_80_46, en_40, w_40_0, w_40_1, w_40_4, w_40_6, w_40_9, w_40_10, w_40_13, w_40_14, w_40_17, w_40_18, w_40_19, w_40_20, w_40_23, w_40_24, w_40_27, w_40_28, w_40_29, w_40_30, w_40_33, w_40_34, w_40_37, w_40_38, w_40_39, w_40_40, w_40_41, w_40_44, w_40_45, w_40_46, w_40_49, x1, show (20 : Int32) = ic 20 from rfl, ic_le, e8, if_false, inB_ic, ic_clamp, e9, true_and, sv_d, x2, x3, x4, ic_add1, ne_thr0, app0, zb1]
theorem m_snow_no {n : Nat} {s lo hi : Int32} (r1 : X 97 10 = X 1 0) (r2 : X 97 28 = X 1 3) (hn : X 1 3 = ic n) (hn20 : n ≤ 20) (h : snB X s lo hi = false) : Call 115 [.ref 97, .int s, .int lo, .int hi] (hX u L xs X Z) K ↔ K [.int 0] (hX u L xs (sv X 97 0 0) Z) := by
  have q1 : (sv X 97 0 0) 97 10 = X 1 0 := by rw [sv_i (by decide)]; exact r1
  have q2 : (sv X 97 0 0) 97 28 = X 1 3 := by rw [sv_i (by decide)]; exact r2
  unfold snB at h
  rw [decide_eq_false_iff_not] at h
  simp only [en_115, w_115_0, w_115_1, w_115_2, w_115_5, w_115_6, w_115_9, w_115_10, w_115_11, w_115_14, w_115_15, w_115_16, w_115_19, w_115_20, w_115_21, w_115_24, w_115_25, w_115_26, w_115_29, w_115_30, w_115_33, w_115_35, w_115_38, w_115_39, w_115_41, w_115_44, w_115_45, w_115_48, w_115_49, w_115_50, w_115_51, w_115_54, w_115_55, w_115_58, w_115_59, w_115_60, w_115_61, w_115_64, w_115_65, w_115_68, w_115_69, w_115_70, w_115_71, w_115_72, w_115_75, w_115_76, w_115_77, w_115_80, w_115_81, sv_d, q1, q2, zb0, true_and]
  by_cases c1 : s < 0
  · simp [c1]
  · by_cases c1' : X 1 0 - 1 ≤ s
    · simp only [c1, c1', if_false, if_true]
    · by_cases c2 : lo < 1
      · simp only [c1, c1', c2, if_false, if_true]
      · by_cases c3 : hi < lo
        · simp only [c1, c1', c2, c3, if_false, if_true]
        · have c4 : ¬ X 1 3 < 20 := fun q => h ⟨⟨c1, c1'⟩, c2, c3, q⟩
          have c5 : X 1 3 = 20 := by
            rw [hn, show (20 : Int32) = ic 20 from rfl, ic_lt (by omega) (by omega)] at c4
            rw [hn, show n = 20 by omega]
            rfl
          simp only [c1, c1', c2, c3, c5, if_false, not_true_eq_false]
theorem m_snow {n : Nat} {s lo hi : Int32} (r1 : X 97 10 = X 1 0) (r2 : X 97 28 = ic n) (hn20 : n < 20) (c1 : ¬ s < 0 ∧ ¬ X 1 0 - 1 ≤ s) (c2 : ¬ lo < 1) (c3 : ¬ hi < lo) : Call 115 [.ref 97, .int s, .int lo, .int hi] (hX u L xs X Z) K ↔ K [.int 1] (hX u L xs (sv (sv (sv (sv (sv X 97 0 0) 117 n s) 118 n lo) 119 n hi) 97 28 (ic (n + 1))) Z) := by
  have q1 : (sv X 97 0 0) 97 10 = X 1 0 := by rw [sv_i (by decide)]; exact r1
  have q2 : (sv X 97 0 0) 97 28 = ic n := by rw [sv_i (by decide)]; exact r2
  have x2 : (sv (sv X 97 0 0) 117 n s) 97 28 = ic n := by rw [sv_a (by decide)]; exact q2
  have x3 : (sv (sv (sv X 97 0 0) 117 n s) 118 n lo) 97 28 = ic n := by rw [sv_a (by decide)]; exact x2
  have x4 : (sv (sv (sv (sv X 97 0 0) 117 n s) 118 n lo) 119 n hi) 97 28 = ic n := by rw [sv_a (by decide)]; exact x3
  have e9 : (n < 20) = True := eq_true hn20
  have e8 : (n = 20) = False := eq_false (by omega)
  have d1 := c1.1
  have d2 := c1.2
  simp (disch := first | assumption | omega) only [en_115, w_115_0, w_115_1, w_115_2, w_115_5, w_115_6, w_115_9, w_115_10, w_115_11, w_115_14, w_115_15, w_115_16, w_115_19, w_115_20, w_115_21, w_115_24, w_115_25, w_115_26, w_115_29, w_115_30, w_115_33, w_115_35, w_115_38, w_115_39, w_115_40, w_115_41, w_115_44, w_115_45, w_115_48, w_115_49, w_115_50, w_115_51, w_115_54, w_115_55, w_115_58, w_115_59, w_115_60, w_115_61, w_115_64, w_115_65, w_115_68, w_115_69, w_115_70, w_115_71, w_115_72, w_115_75, w_115_76, w_115_77, w_115_80, w_115_81, sv_d, q1, q2, d1, d2, c2, c3, if_false, show (20 : Int32) = ic 20 from rfl, ic_eq, e8, not_false_eq_true, if_true, inB_ic, ic_clamp, e9, true_and, x2, x3, x4, ic_add1, zb1]
theorem op_snow {s lo hi : Int32} (hg : GI X) : Two u L xs 80 115 [.ref 0, .int s, .int lo, .int hi] [.ref 97, .int s, .int lo, .int hi] X Z := by
  have r1 := hg.1.1.2.1.1
  have r2 := hg.1.1.2.1.2.1
  have hn := hg.1.1.1.2.2.2.1
  have hn20 := hg.1.1.1.2.2.2.2.1
  unfold Two
  by_cases c : snB X s lo hi = true
  · have c' := c
    unfold snB at c'
    rw [decide_eq_true_eq] at c'
    obtain ⟨c1, c2, c3, c4⟩ := c'
    rw [hn, show (20 : Int32) = ic 20 from rfl, ic_lt (by omega) (by omega)] at c4
    generalize hN : nsN X = n at hn hn20 c4
    rw [c_snow hn c4 c]
    refine ⟨1, _, rfl, rfl, ?_⟩
    have cc : ∀ a, a ≠ 1 → a ≠ 4 → a ≠ 5 → a ≠ 6 → (sv (sv (sv (sv X 4 n s) 5 n lo) 6 n hi) 1 3 (ic (n + 1))) a = X a := fun a h1 h2 h3 h4 => by rw [sv_a h1, sv_a h4, sv_a h3, sv_a h2]
    have c10 : (sv (sv (sv (sv X 4 n s) 5 n lo) 6 n hi) 1 3 (ic (n + 1))) 1 0 = X 1 0 := by rw [sv_i (by decide), sv_a (by decide), sv_a (by decide), sv_a (by decide)]
    rw [m_snow (n := n) (by rw [cc 97 (by decide) (by decide) (by decide) (by decide), c10]; exact r1) (by rw [cc 97 (by decide) (by decide) (by decide) (by decide), r2]; exact hn) c4 (by rw [c10]; exact c1) c2 c3]
    refine ⟨rfl, _, Z, rfl, rfl, ?_⟩
    generalize hY : sv (sv (sv (sv (sv (sv (sv (sv (sv X 4 n s) 5 n lo) 6 n hi) 1 3 (ic (n + 1))) 97 0 0) 117 n s) 118 n lo) 119 n hi) 97 28 (ic (n + 1)) = Y
    have ca : ∀ a, a ≠ 1 → a ≠ 4 → a ≠ 5 → a ≠ 6 → a ≠ 97 → a ≠ 117 → a ≠ 118 → a ≠ 119 → Y a = X a := fun a h1 h2 h3 h4 h5 h6 h7 h8 => by rw [← hY, sv_a h5, sv_a h8, sv_a h7, sv_a h6, sv_a h5]; exact cc a h1 h2 h3 h4
    have c97 : ∀ j, j ≠ 0 → j ≠ 28 → Y 97 j = X 97 j := fun j h0 h28 => by rw [← hY, sv_i h28, sv_a (by decide), sv_a (by decide), sv_a (by decide), sv_i h0, cc 97 (by decide) (by decide) (by decide) (by decide)]
    have y28 : Y 97 28 = ic (n + 1) := by rw [← hY]; exact sv_s
    have y1 : ∀ j, Y 1 j = if j = 3 then ic (n + 1) else X 1 j := fun j => by
      rw [← hY, sv_a (by decide), sv_a (by decide), sv_a (by decide), sv_a (by decide), sv_a (by decide), sv_at, sv_a (by decide), sv_a (by decide), sv_a (by decide)]; simp
    have y4 : ∀ i, Y 4 i = if i = n then s else X 4 i := fun i => by
      rw [← hY, sv_a (by decide), sv_a (by decide), sv_a (by decide), sv_a (by decide), sv_a (by decide), sv_a (by decide), sv_a (by decide), sv_a (by decide), sv_at]; simp
    have y5 : ∀ i, Y 5 i = if i = n then lo else X 5 i := fun i => by
      rw [← hY, sv_a (by decide), sv_a (by decide), sv_a (by decide), sv_a (by decide), sv_a (by decide), sv_a (by decide), sv_a (by decide), sv_at, sv_a (by decide)]; simp
    have y6 : ∀ i, Y 6 i = if i = n then hi else X 6 i := fun i => by
      rw [← hY, sv_a (by decide), sv_a (by decide), sv_a (by decide), sv_a (by decide), sv_a (by decide), sv_a (by decide), sv_at, sv_a (by decide), sv_a (by decide)]; simp
    have y117 : ∀ i, Y 117 i = if i = n then s else X 117 i := fun i => by
      rw [← hY, sv_a (by decide), sv_a (by decide), sv_a (by decide), sv_at, sv_a (by decide), cc 117 (by decide) (by decide) (by decide) (by decide)]; simp
    have y118 : ∀ i, Y 118 i = if i = n then lo else X 118 i := fun i => by
      rw [← hY, sv_a (by decide), sv_a (by decide), sv_at, sv_a (by decide), sv_a (by decide), cc 118 (by decide) (by decide) (by decide) (by decide)]; simp
    have y119 : ∀ i, Y 119 i = if i = n then hi else X 119 i := fun i => by
      rw [← hY, sv_a (by decide), sv_at, sv_a (by decide), sv_a (by decide), sv_a (by decide), cc 119 (by decide) (by decide) (by decide) (by decide)]; simp
    have y10 : Y 1 0 = X 1 0 := by rw [y1, if_neg (by decide)]
    have enp : npN Y = npN X := by unfold npN; rw [y10]
    have y13 : Y 1 3 = ic (n + 1) := by rw [y1, if_pos rfl]
    refine GI_road hg (fun a h1 h2 => ca a (by omega) (by omega) (by omega) (by omega) h2 (by omega) (by omega) (by omega)) (fun a h1 h2 => ca a (by omega) (by omega) (by omega) (by omega) (by omega) (by omega) (by omega) (by omega)) (fun j h0 _ h28 => c97 j h0 h28) ?_ ?_ (by rw [enp]; exact hg.1.2.2.1.2.1)
    · have g := hg.1.1.1
      have ens : nsN Y = n + 1 := by unfold nsN; rw [y13, ic_clamp (by omega)]
      have eln : lnN Y = lnN X := by unfold lnN; rw [ca 11 (by decide) (by decide) (by decide) (by decide) (by decide) (by decide) (by decide) (by decide)]
      have esz : szN Y = szN X := by unfold szN; rw [ca 11 (by decide) (by decide) (by decide) (by decide) (by decide) (by decide) (by decide) (by decide)]
      have een : enN Y = enN X := by funext l; unfold enN; rw [ca 14 (by decide) (by decide) (by decide) (by decide) (by decide) (by decide) (by decide) (by decide)]
      obtain ⟨g1, g2, g3, g4, g5, g6, g7⟩ := g
      unfold RdOK RuOK at *
      rw [enp, ens, eln, esz, een, y10, y13, ca 2 (by decide) (by decide) (by decide) (by decide) (by decide) (by decide) (by decide) (by decide), ca 11 (by decide) (by decide) (by decide) (by decide) (by decide) (by decide) (by decide) (by decide), ca 14 (by decide) (by decide) (by decide) (by decide) (by decide) (by decide) (by decide) (by decide)]
      exact ⟨g1, g2, g3, rfl, by omega, g6, g7⟩
    · obtain ⟨t1, t2, t3, t4, t5, t6, t7, t8, t9⟩ := hg.1.1.2.1
      unfold RR
      rw [c97 10 (by decide) (by decide), y28, y10, y13, ca 2 (by decide) (by decide) (by decide) (by decide) (by decide) (by decide) (by decide) (by decide), ca 3 (by decide) (by decide) (by decide) (by decide) (by decide) (by decide) (by decide) (by decide), ca 7 (by decide) (by decide) (by decide) (by decide) (by decide) (by decide) (by decide) (by decide), ca 8 (by decide) (by decide) (by decide) (by decide) (by decide) (by decide) (by decide) (by decide), ca 103 (by decide) (by decide) (by decide) (by decide) (by decide) (by decide) (by decide) (by decide), ca 104 (by decide) (by decide) (by decide) (by decide) (by decide) (by decide) (by decide) (by decide), ca 115 (by decide) (by decide) (by decide) (by decide) (by decide) (by decide) (by decide) (by decide), ca 116 (by decide) (by decide) (by decide) (by decide) (by decide) (by decide) (by decide) (by decide)]
      refine ⟨t1, rfl, t3, t4, t5, t6, fun i hi => ?_, fun i hi => ?_, fun i hi => ?_⟩
      · rw [y117, y4, t7 i hi]
      · rw [y118, y5, t8 i hi]
      · rw [y119, y6, t9 i hi]
  · have c' : snB X s lo hi = false := by simpa using c
    rw [c_snow_no c']
    refine ⟨0, _, rfl, rfl, ?_⟩
    rw [m_snow_no r1 r2 hn hn20 c']
    exact ⟨rfl, _, Z, rfl, rfl, GI_thr hg⟩
end
