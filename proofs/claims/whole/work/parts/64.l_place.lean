/-! THE SIMPLE CALLS, OF BOTH SIDES: place -/
section
variable {u : Nat × Nat} {L : Nat} {xs : Nat → Int32} {X X' : Nat → Nat → Int32} {Z : Nat → Nat → Int64} {K : List Value → AH → Prop} {V W : Nat → Nat → Int32}
def plB (X : Nat → Nat → Int32) (m : Int32) : Bool := decide ((¬ 0 < X 26 0 ∧ ¬ 0 < X 39 0) ∧ (¬ m < 1 ∧ ¬ 30 < m) ∧ X 1 0 < 10)
theorem c_place_no {m p : Int32} (h : plB X m = false) : Call 76 [.ref 0, .int m, .int p] (hX u L xs X Z) K ↔ K [.int (-1)] (hX u L xs X Z) := by
  unfold plB at h
  rw [decide_eq_false_iff_not] at h
  simp only [en_76, w_76_0, w_76_1, w_76_4, w_76_7, w_76_10, w_76_13, w_76_14, w_76_17, w_76_20, w_76_23, w_76_26, w_76_27, w_76_30, w_76_31, w_76_32, w_76_33, w_76_36, w_76_37, w_76_38, w_76_40, w_76_43, w_76_46, w_76_47, w_76_50, w_76_53, w_76_55, w_76_58, w_76_59, w_76_61, w_76_64, w_76_65, w_76_66, w_76_69, c_within, ne_thr, app1, true_and, b2i_z, nle]
  by_cases c1 : 0 < X 26 0
  · simp [c1]
  · by_cases c2 : 0 < X 39 0
    · simp [c1, c2]
    · by_cases c3 : ¬ m < 1 ∧ ¬ 30 < m
      · have c4 : ¬ X 1 0 < 10 := fun q => h ⟨⟨c1, c2⟩, c3, q⟩
        rw [decide_eq_true c3]
        simp [c1, c2, c4]
      · rw [decide_eq_false c3]
        simp [c1, c2]
theorem c_place {n : Nat} {m p : Int32} (hp : p = 0 ∨ p = 1) (hn : X 1 0 = ic n) (h1 : 1 ≤ n) (h10 : n < 10) (h : plB X m = true) : Call 76 [.ref 0, .int m, .int p] (hX u L xs X Z) K ↔ K [.int (ic n)] (hX u L xs (sv (sv (sv X 2 (n - 1) m) 3 n p) 1 0 (ic (n + 1))) Z) := by
  unfold plB at h
  rw [decide_eq_true_eq] at h
  obtain ⟨⟨c1, c2⟩, c3, c4⟩ := h
  have e1 := decide_eq_true c3
  have c2' : (X 39 0 ≤ 0) = True := by rw [nle]; exact eq_true c2
  have e9 : (n < 10) = True := eq_true h10
  have e8 : (n - 1 < 10) = True := eq_true (by omega)
  have pn : vp_nar .boolean p = p := by rcases hp with rfl | rfl <;> rfl
  have pb : p &&& 1 = p := by rcases hp with rfl | rfl <;> rfl
  simp (disch := first | assumption | omega) only [en_76, w_76_0, w_76_1, w_76_4, w_76_7, w_76_10, w_76_13, w_76_14, w_76_17, w_76_20, w_76_23, w_76_26, w_76_27, w_76_30, w_76_31, w_76_32, w_76_33, w_76_36, w_76_37, w_76_38, w_76_40, w_76_43, w_76_46, w_76_47, w_76_50, w_76_53, w_76_55, w_76_58, w_76_59, w_76_61, w_76_64, w_76_65, w_76_66, w_76_69, c_within, ne_thr, app1, true_and, c1, c2', e1, b2i_t, show ((1 : Int32) = 0) = False by decide, if_false, c4, if_true, not_true_eq_false]
  have x2 : (sv X 2 (n - 1) m) 1 0 = ic n := by rw [sv_a (by decide)]; exact hn
  have x3 : ∀ q, (sv (sv X 2 (n - 1) m) 3 n q) 1 0 = ic n := fun q => by rw [sv_a (by decide)]; exact x2
  have x4 : ∀ Y : Nat → Nat → Int32, (sv Y 1 0 (ic (n + 1))) 1 0 = ic (n + 1) := fun Y => sv_s
  have s1 : ic (n + 1) - 1 = ic n := by rw [ic_pred (by omega)]; rfl
  simp (disch := first | assumption | omega) only [en_76, w_76_0, w_76_1, w_76_4, w_76_7, w_76_10, w_76_13, w_76_14, w_76_17, w_76_20, w_76_23, w_76_26, w_76_27, w_76_30, w_76_31, w_76_32, w_76_33, w_76_36, w_76_37, w_76_38, w_76_40, w_76_43, w_76_46, w_76_47, w_76_50, w_76_53, w_76_55, w_76_58, w_76_59, w_76_60, w_76_61, w_76_64, w_76_65, w_76_66, w_76_69, en_37, w_37_0, w_37_1, w_37_4, w_37_6, w_37_9, w_37_10, w_37_11, w_37_12, w_37_15, w_37_16, w_37_19, w_37_20, w_37_21, w_37_22, w_37_23, w_37_24, w_37_27, w_37_28, w_37_31, w_37_32, w_37_33, w_37_34, w_37_35, w_37_38, w_37_39, w_37_40, w_37_43, w_37_44, w_37_47, w_37_48, w_37_49, hn, show (10 : Int32) = ic 10 from rfl, ic_lt, e9, if_true, ic_pred, inB_ic, ic_clamp, e8, true_and, sv_d, x2, x3, x4, ic_add1, s1, ne_thr, app1, pn, pb]
theorem m_place_no {n : Nat} {m p : Int32} (r1 : X 97 10 = X 1 0) (r13 : X 97 13 = X 26 0) (r18 : X 97 18 = X 39 0) (hn : X 1 0 = ic n) (hn10 : n ≤ 10) (h : plB X m = false) : Call 111 [.ref 97, .int m, .int p] (hX u L xs X Z) K ↔ K [.int (-1)] (hX u L xs (sv X 97 0 0) Z) := by
  have q1 : (sv X 97 0 0) 97 10 = X 1 0 := by rw [sv_i (by decide)]; exact r1
  have q2 : (sv X 97 0 0) 97 13 = X 26 0 := by rw [sv_i (by decide)]; exact r13
  have q3 : (sv X 97 0 0) 97 18 = X 39 0 := by rw [sv_i (by decide)]; exact r18
  unfold plB at h
  rw [decide_eq_false_iff_not] at h
  simp only [en_111, w_111_0, w_111_1, w_111_2, w_111_5, w_111_6, w_111_7, w_111_10, w_111_11, w_111_13, w_111_16, w_111_17, w_111_20, w_111_22, w_111_25, w_111_26, w_111_29, w_111_32, w_111_33, w_111_36, w_111_39, w_111_40, w_111_42, w_111_45, w_111_46, w_111_49, w_111_50, w_111_51, w_111_52, w_111_53, w_111_54, w_111_57, w_111_58, w_111_61, w_111_62, w_111_63, w_111_64, w_111_65, w_111_68, w_111_69, w_111_70, w_111_73, w_111_74, w_111_77, w_111_78, w_111_79, sv_d, q1, q2, q3, nle]
  by_cases c1 : m < 1
  · simp [c1]
  · by_cases c2 : 30 < m
    · simp [c1, c2]
    · by_cases c3 : X 1 0 = 10
      · simp [c1, c2, c3]
      · by_cases c4 : 0 < X 26 0
        · simp [c1, c2, c3, c4]
        · have c5 : 0 < X 39 0 := by
            refine Classical.not_not.mp (fun q => h ⟨⟨c4, q⟩, ⟨c1, c2⟩, ?_⟩)
            rw [hn, show (10 : Int32) = ic 10 from rfl, ic_eq (by omega) (by omega)] at c3
            rw [hn, show (10 : Int32) = ic 10 from rfl, ic_lt (by omega) (by omega)]
            omega
          simp [c1, c2, c3, c4, c5]
theorem m_place {n : Nat} {m p : Int32} (hp : p = 0 ∨ p = 1) (r1 : X 97 10 = ic n) (r13 : ¬ 0 < X 97 13) (r18 : ¬ 0 < X 97 18) (h1 : 1 ≤ n) (h10 : n < 10) (c3 : ¬ m < 1 ∧ ¬ 30 < m) : Call 111 [.ref 97, .int m, .int p] (hX u L xs X Z) K ↔ K [.int (ic n)] (hX u L xs (sv (sv (sv (sv X 97 0 0) 103 (n - 1) m) 104 n p) 97 10 (ic (n + 1))) Z) := by
  have q1 : (sv X 97 0 0) 97 10 = ic n := by rw [sv_i (by decide)]; exact r1
  have q2 : ¬ 0 < (sv X 97 0 0) 97 13 := by rw [sv_i (by decide)]; exact r13
  have q3 : ((sv X 97 0 0) 97 18 ≤ 0) = True := by rw [sv_i (by decide), nle]; exact eq_true r18
  have e9 : (n < 10) = True := eq_true h10
  have e8 : (n - 1 < 10) = True := eq_true (by omega)
  have e7 : (n = 10) = False := eq_false (by omega)
  have pn : vp_nar .boolean p = p := by rcases hp with rfl | rfl <;> rfl
  have x2 : (sv (sv X 97 0 0) 103 (n - 1) m) 97 10 = ic n := by rw [sv_a (by decide)]; exact q1
  have x3 : ∀ q, (sv (sv (sv X 97 0 0) 103 (n - 1) m) 104 n q) 97 10 = ic n := fun q => by rw [sv_a (by decide)]; exact x2
  have x4 : ∀ Y : Nat → Nat → Int32, (sv Y 97 10 (ic (n + 1))) 97 10 = ic (n + 1) := fun Y => sv_s
  have s1 : ic (n + 1) - 1 = ic n := by rw [ic_pred (by omega)]; rfl
  have d1 := c3.1
  have d2 := c3.2
  simp (disch := first | assumption | omega) only [en_111, w_111_0, w_111_1, w_111_2, w_111_5, w_111_6, w_111_7, w_111_10, w_111_11, w_111_13, w_111_16, w_111_17, w_111_20, w_111_22, w_111_25, w_111_26, w_111_29, w_111_32, w_111_33, w_111_36, w_111_39, w_111_40, w_111_41, w_111_42, w_111_45, w_111_46, w_111_49, w_111_50, w_111_51, w_111_52, w_111_53, w_111_54, w_111_57, w_111_58, w_111_61, w_111_62, w_111_63, w_111_64, w_111_65, w_111_68, w_111_69, w_111_70, w_111_73, w_111_74, w_111_77, w_111_78, w_111_79, sv_d, q1, q2, q3, d1, d2, if_false, if_true, show (10 : Int32) = ic 10 from rfl, ic_eq, e7, ic_pred, inB_ic, ic_clamp, e8, e9, true_and, x2, x3, x4, ic_add1, s1, pn]
theorem VI_none {np : Nat} (hn : nrN V = 0) (h : VI np V) (np' : Nat) : VI np' V := by
  obtain ⟨g1, g2, g3⟩ := h
  refine ⟨fun q => by omega, fun k hk => ?_, g3⟩
  have h6 := g3 k hk (by omega)
  have h8 := (g2 k hk).2.2 (by rw [h6]; decide)
  unfold VI1
  rw [h6]
  exact ⟨fun q => by rcases q with q | q <;> exact absurd q (by decide), fun q => absurd q (by decide), fun _ => h8⟩
theorem op_place {m p : Int32} (hp : p = 0 ∨ p = 1) (hg : GI X) : Two u L xs 76 111 [.ref 0, .int m, .int p] [.ref 97, .int m, .int p] X Z := by
  have r1 := hg.1.1.2.1.1
  have hn := hg.1.1.1.1
  have hn1 := hg.1.1.1.2.1
  have hn10 := hg.1.1.1.2.2.1
  have w1 : wz X 25 1 = X 26 := wz_at (by decide)
  have w14 : wz X 25 14 = X 39 := wz_at (by decide)
  have r13 : X 97 13 = X 26 0 := by rw [hg.1.2.1.2.1, w1]
  have r18 : X 97 18 = X 39 0 := by rw [hg.1.2.1.2.2.1, w14]
  unfold Two
  by_cases c : plB X m = true
  · have c' := c
    unfold plB at c'
    rw [decide_eq_true_eq] at c'
    obtain ⟨⟨c1, c2⟩, c3, c4⟩ := c'
    rw [hn, show (10 : Int32) = ic 10 from rfl, ic_lt (by omega) (by omega)] at c4
    have g := hg.1.1.1
    have g6 := hg.1.1.1.2.2.2.2.2.1
    have vi := hg.1.2.2.1.2.1
    have vo := hg.1.2.2.1.1
    generalize hN : npN X = n at hn hn1 hn10 c4 g6 vi
    rw [c_place hp hn hn1 c4 c]
    refine ⟨_, _, rfl, rfl, ?_⟩
    have cc : ∀ a, a ≠ 1 → a ≠ 2 → a ≠ 3 → (sv (sv (sv X 2 (n - 1) m) 3 n p) 1 0 (ic (n + 1))) a = X a := fun a h1 h2 h3 => by rw [sv_a h1, sv_a h3, sv_a h2]
    rw [m_place (n := n) hp (by rw [cc 97 (by decide) (by decide) (by decide), r1]; exact hn) (by rw [cc 97 (by decide) (by decide) (by decide), r13]; exact c1) (by rw [cc 97 (by decide) (by decide) (by decide), r18]; exact c2) hn1 c4 c3]
    refine ⟨rfl, _, Z, rfl, rfl, ?_⟩
    generalize hY : sv (sv (sv (sv (sv (sv (sv X 2 (n - 1) m) 3 n p) 1 0 (ic (n + 1))) 97 0 0) 103 (n - 1) m) 104 n p) 97 10 (ic (n + 1)) = Y
    have ca : ∀ a, a ≠ 1 → a ≠ 2 → a ≠ 3 → a ≠ 97 → a ≠ 103 → a ≠ 104 → Y a = X a := fun a h1 h2 h3 h4 h5 h6 => by rw [← hY, sv_a h4, sv_a h6, sv_a h5, sv_a h4]; exact cc a h1 h2 h3
    have c97 : ∀ j, j ≠ 0 → j ≠ 10 → Y 97 j = X 97 j := fun j h0 h10 => by rw [← hY, sv_i h10, sv_a (by decide), sv_a (by decide), sv_i h0, cc 97 (by decide) (by decide) (by decide)]
    have y97 : Y 97 10 = ic (n + 1) := by rw [← hY]; exact sv_s
    have y1 : ∀ j, Y 1 j = if j = 0 then ic (n + 1) else X 1 j := fun j => by
      rw [← hY, sv_a (by decide), sv_a (by decide), sv_a (by decide), sv_a (by decide), sv_at, sv_a (by decide), sv_a (by decide)]; simp
    have y2 : ∀ i, Y 2 i = if i = n - 1 then m else X 2 i := fun i => by
      rw [← hY, sv_a (by decide), sv_a (by decide), sv_a (by decide), sv_a (by decide), sv_a (by decide), sv_a (by decide), sv_at]; simp
    have y3 : ∀ i, Y 3 i = if i = n then p else X 3 i := fun i => by
      rw [← hY, sv_a (by decide), sv_a (by decide), sv_a (by decide), sv_a (by decide), sv_a (by decide), sv_at, sv_a (by decide)]; simp
    have y103 : ∀ i, Y 103 i = if i = n - 1 then m else X 103 i := fun i => by
      rw [← hY, sv_a (by decide), sv_a (by decide), sv_at, sv_a (by decide), cc 103 (by decide) (by decide) (by decide)]; simp
    have y104 : ∀ i, Y 104 i = if i = n then p else X 104 i := fun i => by
      rw [← hY, sv_a (by decide), sv_at, sv_a (by decide), sv_a (by decide), cc 104 (by decide) (by decide) (by decide)]; simp
    have y10 : Y 1 0 = ic (n + 1) := by rw [y1, if_pos rfl]
    have y13 : Y 1 3 = X 1 3 := by rw [y1, if_neg (by decide)]
    have enp : npN Y = n + 1 := by unfold npN; rw [y10, ic_clamp (by omega)]
    have nr0 : nrN (wz X 25) = 0 := by
      have e := vo.1
      have h12 := vo.2.1
      rw [w1] at e
      rw [e, ic_z, ic_lt (by omega) (by omega)] at c1
      omega
    refine GI_road hg (fun a h1 h2 => ca a (by omega) (by omega) (by omega) h2 (by omega) (by omega)) (fun a h1 h2 => ca a (by omega) (by omega) (by omega) (by omega) (by omega) (by omega)) (fun j h0 h10 _ => c97 j h0 h10) ?_ ?_ (by rw [enp]; exact VI_none nr0 vi _)
    · have ens : nsN Y = nsN X := by unfold nsN; rw [y13]
      have eln : lnN Y = lnN X := by unfold lnN; rw [ca 11 (by decide) (by decide) (by decide) (by decide) (by decide) (by decide)]
      have esz : szN Y = szN X := by unfold szN; rw [ca 11 (by decide) (by decide) (by decide) (by decide) (by decide) (by decide)]
      have een : enN Y = enN X := by funext l; unfold enN; rw [ca 14 (by decide) (by decide) (by decide) (by decide) (by decide) (by decide)]
      obtain ⟨_, _, _, g4, g5, _, g7⟩ := g
      unfold RuOK at g7
      unfold RdOK RuOK
      rw [enp, ens, eln, esz, een, y10, y13, ca 11 (by decide) (by decide) (by decide) (by decide) (by decide) (by decide), ca 14 (by decide) (by decide) (by decide) (by decide) (by decide) (by decide)]
      refine ⟨rfl, by omega, by omega, g4, g5, fun s hs => ?_, g7⟩
      rw [y2]
      by_cases e : s = n - 1
      · rw [if_pos e]
        have z : (0 : Int32) < 1 := by decide
        exact Int32.lt_of_lt_of_le z (by rw [nle]; exact c3.1)
      · rw [if_neg e]
        exact g6 s (by omega)
    · obtain ⟨t1, t2, t3, t4, t5, t6, t7, t8, t9⟩ := hg.1.1.2.1
      unfold RR
      rw [c97 28 (by decide) (by decide), y97, y10, y13, ca 4 (by decide) (by decide) (by decide) (by decide) (by decide) (by decide), ca 5 (by decide) (by decide) (by decide) (by decide) (by decide) (by decide), ca 6 (by decide) (by decide) (by decide) (by decide) (by decide) (by decide), ca 7 (by decide) (by decide) (by decide) (by decide) (by decide) (by decide), ca 8 (by decide) (by decide) (by decide) (by decide) (by decide) (by decide), ca 115 (by decide) (by decide) (by decide) (by decide) (by decide) (by decide), ca 116 (by decide) (by decide) (by decide) (by decide) (by decide) (by decide), ca 117 (by decide) (by decide) (by decide) (by decide) (by decide) (by decide), ca 118 (by decide) (by decide) (by decide) (by decide) (by decide) (by decide), ca 119 (by decide) (by decide) (by decide) (by decide) (by decide) (by decide)]
      refine ⟨rfl, t2, fun i hi => ?_, fun i h1 hi => ?_, t5, t6, t7, t8, t9⟩
      · rw [y103, y2, t3 i hi]
      · rw [y104, y3, t4 i h1 hi]
  · have c' : plB X m = false := by simpa using c
    rw [c_place_no c']
    refine ⟨_, _, rfl, rfl, ?_⟩
    rw [m_place_no r1 r13 r18 hn hn10 c']
    exact ⟨rfl, _, Z, rfl, rfl, GI_thr hg⟩
end
