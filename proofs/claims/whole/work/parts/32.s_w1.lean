/-! THE WORLD'S METHODS, AS FUNCTIONS OF WHAT A WORLD HOLDS: letting out and taking in -/
section
variable {u : Nat × Nat} {L : Nat} {xs : Nat → Int32} {X : Nat → Nat → Int32} {Z : Nat → Nat → Int64} {K : List Value → AH → Prop} {w : Nat} {V : Nat → Nat → Int32}
def cntF (V : Nat → Nat → Int32) (r k : Nat) (m : Int32) : Nat → Nat → Int32 := if V 15 k = 0 then sv V 9 r (V 9 r + m) else sv V 10 r (V 10 r + m)
theorem c_countIn (hw : isWd w) {r k : Nat} {m : Int32} (hr : r < 12) (hk : k < 80) : Call 65 [.ref (w + 0), .int (ic r), .int (ic k), .int m] (hW u L xs X Z w V) K ↔ K [] (hW u L xs X Z w (cntF V r k m)) := by
  have e1 : (r < 12) = True := eq_true hr
  have e2 : (k < 80) = True := eq_true hk
  simp (disch := first | assumption | omega) only [en_65, w_65_0, w_65_1, w_65_4, w_65_7, w_65_8, w_65_9, w_65_12, w_65_13, w_65_16, w_65_19, w_65_20, w_65_21, w_65_22, w_65_23, w_65_24, w_65_25, w_65_28, w_65_29, w_65_32, w_65_35, w_65_36, w_65_37, w_65_38, w_65_39, w_65_40, w_65_41, ic_clamp, inB_ic, e1, e2, true_and, cntF, sv]
  split <;> simp_all only [b2i, nle, Bool.true_eq_false, reduceCtorEq, Classical.not_not, eq_self, Bool.decide_eq_true, imp_self, Bool.not_eq_true, decide_not, decide_true, decide_false, not_true_eq_false, not_false_eq_true, or_true, true_or, or_false, false_or, and_true, true_and, false_and, and_false, if_true, if_false, Bool.false_eq_true, reduceIte, Bool.or_true, Bool.true_or, Bool.or_false, Bool.false_or, Bool.and_true, Bool.true_and, Bool.and_false, Bool.false_and, Bool.not_true, Bool.not_false, ne_eq, iff_self, or_self, and_self]
def outF (r : Nat) (k : Nat) (V : Nat → Nat → Int32) : Nat → Nat → Int32 := if V 19 k = 1 ∧ V 20 k = ic r ∧ V 17 k = V 7 r then cntF (sv (sv V 19 k 2) 21 k (V 0 5)) r k (-1) else V
theorem outF_14 {r k : Nat} : outF r k V 14 = V 14 := by
  unfold outF cntF
  repeat' split
  all_goals simp (disch := omega) only [sv_a]
theorem l_letOut (hw : isWd w) {r n : Nat} (hr : r < 12) (h80 : n ≤ 80) {l3 : Value} : ∀ d k V l3, V 14 0 = ic n → k + d = n → (WP 64 0 2 [.ref (w + 0), .int (ic r), .int (ic k), l3] [] (hW u L xs X Z w V) K ↔ K [] (hW u L xs X Z w (itr (outF r) k d V))) := by
  have e1 : (r < 12) = True := eq_true hr
  intro d
  induction d with
  | zero =>
    intro k V l3 hn hk
    have e : (n ≤ k) = True := eq_true (by omega)
    rw [w_64_2]
    simp (disch := first | assumption | omega) only [en_64, w_64_0, w_64_1, w_64_3, w_64_4, w_64_7, w_64_10, w_64_13, w_64_14, w_64_17, w_64_20, w_64_21, w_64_22, w_64_23, w_64_26, w_64_27, w_64_30, w_64_33, w_64_34, w_64_35, w_64_36, w_64_39, w_64_40, w_64_43, w_64_46, w_64_47, w_64_48, w_64_49, w_64_52, w_64_55, w_64_56, w_64_57, w_64_60, w_64_61, w_64_64, w_64_65, w_64_66, w_64_67, w_64_70, w_64_71, w_64_74, w_64_77, w_64_78, w_64_79, w_64_80, w_64_81, w_64_84, w_64_87, w_64_88, w_64_89, w_64_92, w_64_93, w_64_94, w_64_95, w_64_96, w_64_97, w_64_100, w_64_103, w_64_106, hn, ic_le, e, if_true, itr]
  | succ d ih =>
    intro k V l3 hn hk
    have e : (n ≤ k) = False := eq_false (by omega)
    have e2 : (k < 80) = True := eq_true (by omega)
    rw [w_64_2]
    simp (disch := first | assumption | omega) only [en_64, w_64_0, w_64_1, w_64_3, w_64_4, w_64_7, w_64_10, w_64_13, w_64_14, w_64_17, w_64_20, w_64_21, w_64_22, w_64_23, w_64_26, w_64_27, w_64_30, w_64_33, w_64_34, w_64_35, w_64_36, w_64_39, w_64_40, w_64_43, w_64_46, w_64_47, w_64_48, w_64_49, w_64_52, w_64_55, w_64_56, w_64_57, w_64_60, w_64_61, w_64_64, w_64_65, w_64_66, w_64_67, w_64_70, w_64_71, w_64_74, w_64_77, w_64_78, w_64_79, w_64_80, w_64_81, w_64_84, w_64_87, w_64_88, w_64_89, w_64_92, w_64_93, w_64_94, w_64_95, w_64_96, w_64_97, w_64_100, w_64_103, w_64_106, hn, ic_le, e, if_false, ic_clamp, inB_ic, e1, e2, true_and, ic_add1, sv_d, c_countIn, ne_thr0, app0]
    have q := fun l3 => ih (k + 1) (outF r k V) l3 (by rw [outF_14]; exact hn) (by omega)
    unfold itr
    unfold outF at q ⊢
    simp only [sv_a (show 0 ≠ 19 by decide)]
    by_cases c1 : V 19 k = 1
    · by_cases c2 : V 20 k = ic r
      · by_cases c3 : V 17 k = V 7 r
        · simp only [c1, c2, c3, and_self, if_true, not_true_eq_false, if_false, reduceIte] at q ⊢
          simpa using q _
        · simp only [c1, c2, c3, and_self, and_false, if_true, not_true_eq_false, not_false_eq_true, if_false, reduceIte] at q ⊢
          simpa using q _
      · simp only [c1, c2, and_self, and_false, false_and, if_true, not_true_eq_false, not_false_eq_true, if_false, reduceIte] at q ⊢
        simpa using q _
    · simp only [c1, and_self, and_false, false_and, if_true, not_true_eq_false, not_false_eq_true, if_false, reduceIte] at q ⊢
      simpa using q _
def nlF (V : Nat → Nat → Int32) : Nat := (V 14 0).toNatClampNeg
def letOutF (V : Nat → Nat → Int32) (r : Nat) : Nat → Nat → Int32 := itr (outF r) 0 (nlF V) V
theorem c_letOut (hw : isWd w) {r n : Nat} (hr : r < 12) (hn : V 14 0 = ic n) (h80 : n ≤ 80) : Call 64 [.ref (w + 0), .int (ic r)] (hW u L xs X Z w V) K ↔ K [] (hW u L xs X Z w (letOutF V r)) := by
  have e : nlF V = n := by unfold nlF; rw [hn, ic_clamp (by omega)]
  rw [en_64, w_64_0, w_64_1, ic_z, l_letOut hw hr h80 (l3 := poi) n 0 V _ hn (by omega)]
  unfold letOutF
  rw [e]
def aheF (V : Nat → Nat → Int32) (r : Nat) : Int32 := if V 2 r = 0 then V 7 r - 1 else V 7 r + 1
def strF (V : Nat → Nat → Int32) (r : Nat) : Int32 := if V 2 r = 0 then V 7 r - 1 else V 7 r
theorem c_placeAhead (hw : isWd w) {r : Nat} (hr : r < 12) : Call 5 [.ref (w + 1), .int (ic r)] (hW u L xs X Z w V) K ↔ K [.int (aheF V r)] (hW u L xs X Z w V) := by
  have e1 : (r < 12) = True := eq_true hr
  simp (disch := first | assumption | omega) only [en_5, w_5_0, w_5_1, w_5_4, w_5_5, w_5_6, w_5_9, w_5_10, w_5_13, w_5_14, w_5_15, w_5_16, w_5_17, w_5_20, w_5_21, w_5_24, w_5_25, w_5_26, w_5_27, w_5_28, ic_clamp, inB_ic, e1, true_and, aheF]
  split <;> simp_all only [b2i, nle, Bool.true_eq_false, reduceCtorEq, Classical.not_not, eq_self, Bool.decide_eq_true, imp_self, Bool.not_eq_true, decide_not, decide_true, decide_false, not_true_eq_false, not_false_eq_true, or_true, true_or, or_false, false_or, and_true, true_and, false_and, and_false, if_true, if_false, Bool.false_eq_true, reduceIte, Bool.or_true, Bool.true_or, Bool.or_false, Bool.false_or, Bool.and_true, Bool.true_and, Bool.and_false, Bool.false_and, Bool.not_true, Bool.not_false, ne_eq, iff_self, or_self, and_self]
theorem c_stretchOf (hw : isWd w) {r : Nat} (hr : r < 12) : Call 4 [.ref (w + 1), .int (ic r)] (hW u L xs X Z w V) K ↔ K [.int (strF V r)] (hW u L xs X Z w V) := by
  have e1 : (r < 12) = True := eq_true hr
  simp (disch := first | assumption | omega) only [en_4, w_4_0, w_4_1, w_4_4, w_4_5, w_4_6, w_4_9, w_4_10, w_4_13, w_4_14, w_4_15, w_4_18, w_4_19, w_4_22, w_4_23, w_4_24, w_4_25, w_4_26, ic_clamp, inB_ic, e1, true_and, strF]
  split <;> simp_all only [b2i, nle, Bool.true_eq_false, reduceCtorEq, Classical.not_not, eq_self, Bool.decide_eq_true, imp_self, Bool.not_eq_true, decide_not, decide_true, decide_false, not_true_eq_false, not_false_eq_true, or_true, true_or, or_false, false_or, and_true, true_and, false_and, and_false, if_true, if_false, Bool.false_eq_true, reduceIte, Bool.or_true, Bool.true_or, Bool.or_false, Bool.false_or, Bool.and_true, Bool.true_and, Bool.and_false, Bool.false_and, Bool.not_true, Bool.not_false, ne_eq, iff_self, or_self, and_self]
def staF (V : Nat → Nat → Int32) (r : Nat) (p m : Int32) : Nat → Nat → Int32 := sv (sv (sv (sv V 6 r 1) 7 r p) 13 r m) 8 r 0
theorem c_stand (hw : isWd w) {r : Nat} (hr : r < 12) {p m : Int32} : Call 6 [.ref (w + 1), .int (ic r), .int p, .int m] (hW u L xs X Z w V) K ↔ K [] (hW u L xs X Z w (staF V r p m)) := by
  have e1 : (r < 12) = True := eq_true hr
  simp (disch := first | assumption | omega) only [en_6, w_6_0, w_6_1, w_6_4, w_6_5, w_6_6, w_6_7, w_6_8, w_6_11, w_6_12, w_6_13, w_6_14, w_6_15, w_6_18, w_6_19, w_6_20, w_6_21, w_6_22, w_6_25, w_6_26, w_6_27, w_6_28, ic_clamp, inB_ic, e1, true_and, sv_d, staF]
def leaF (V : Nat → Nat → Int32) (r : Nat) (m : Int32) : Nat → Nat → Int32 := sv (sv (sv V 6 r 2) 13 r 0) 8 r m
theorem c_leave (hw : isWd w) {r : Nat} (hr : r < 12) {m : Int32} : Call 7 [.ref (w + 1), .int (ic r), .int m] (hW u L xs X Z w V) K ↔ K [] (hW u L xs X Z w (leaF V r m)) := by
  have e1 : (r < 12) = True := eq_true hr
  simp (disch := first | assumption | omega) only [en_7, w_7_0, w_7_1, w_7_4, w_7_5, w_7_6, w_7_7, w_7_8, w_7_11, w_7_12, w_7_13, w_7_14, w_7_15, w_7_18, w_7_19, w_7_20, w_7_21, ic_clamp, inB_ic, e1, true_and, sv_d, leaF]
def endF (V : Nat → Nat → Int32) (r : Nat) (m : Int32) : Nat → Nat → Int32 := sv (sv (sv V 6 r 3) 13 r 0) 12 r m
theorem c_end (hw : isWd w) {r : Nat} (hr : r < 12) {m : Int32} : Call 8 [.ref (w + 1), .int (ic r), .int m] (hW u L xs X Z w V) K ↔ K [] (hW u L xs X Z w (endF V r m)) := by
  have e1 : (r < 12) = True := eq_true hr
  simp (disch := first | assumption | omega) only [en_8, w_8_0, w_8_1, w_8_4, w_8_5, w_8_6, w_8_7, w_8_8, w_8_11, w_8_12, w_8_13, w_8_14, w_8_15, w_8_18, w_8_19, w_8_20, w_8_21, ic_clamp, inB_ic, e1, true_and, sv_d, endF]
theorem itr_keep {α β : Type} {f : Nat → α → α} {g : α → β} (h : ∀ k a, g (f k a) = g a) : ∀ d k a, g (itr f k d a) = g a := by
  intro d
  induction d with
  | zero => intro k a; rfl
  | succ d ih => intro k a; unfold itr; rw [ih, h]
theorem cntF_ne {r k a : Nat} {m : Int32} (h1 : a ≠ 9) (h2 : a ≠ 10) : cntF V r k m a = V a := by
  unfold cntF
  split
  · rw [sv_a h1]
  · rw [sv_a h2]
theorem outF_ne {r k a : Nat} (h1 : a ≠ 9) (h2 : a ≠ 10) (h3 : a ≠ 19) (h4 : a ≠ 21) : outF r k V a = V a := by
  unfold outF
  split
  · rw [cntF_ne h1 h2, sv_a h4, sv_a h3]
  · rfl
theorem letOutF_ne {r a : Nat} (h1 : a ≠ 9) (h2 : a ≠ 10) (h3 : a ≠ 19) (h4 : a ≠ 21) : letOutF V r a = V a := by
  unfold letOutF
  exact itr_keep (g := fun V : Nat → Nat → Int32 => V a) (fun k V => outF_ne h1 h2 h3 h4) _ _ _
/-- a run that drives: one minute on -/
def driF (X : Nat → Nat → Int32) (V : Nat → Nat → Int32) (r : Nat) : Nat → Nat → Int32 :=
  if 0 < V 8 r - 1 then sv V 8 r (V 8 r - 1) else
    if aheF V r ≤ 0 ∨ X 1 0 - 1 ≤ aheF V r then endF (letOutF (staF (sv V 8 r (V 8 r - 1)) r (aheF V r) (V 0 5)) r) r (V 0 5) else letOutF (staF (sv V 8 r (V 8 r - 1)) r (aheF V r) (V 0 5)) r
theorem c_driveOn (hw : isWd w) {r n : Nat} (hr : r < 12) (hn : V 14 0 = ic n) (h80 : n ≤ 80) : Call 63 [.ref (w + 0), .int (ic r)] (hW u L xs X Z w V) K ↔ K [] (hW u L xs X Z w (driF X V r)) := by
  have e1 : (r < 12) = True := eq_true hr
  have q1 : aheF (sv V 8 r (V 8 r - 1)) r = aheF V r := by simp (disch := omega) only [aheF, sv_a]
  have q2 : (staF (sv V 8 r (V 8 r - 1)) r (aheF V r) (V 0 5)) 14 0 = ic n := by
    unfold staF
    simp (disch := omega) only [sv_a, hn]
  have q3 : letOutF (staF (sv V 8 r (V 8 r - 1)) r (aheF V r) (V 0 5)) r 0 5 = V 0 5 := by
    rw [letOutF_ne (by decide) (by decide) (by decide) (by decide)]
    unfold staF
    simp (disch := omega) only [sv_a]
  simp (disch := first | assumption | omega) only [en_63, w_63_0, w_63_1, w_63_4, w_63_7, w_63_8, w_63_9, w_63_10, w_63_11, w_63_12, w_63_13, w_63_14, w_63_17, w_63_20, w_63_21, w_63_22, w_63_25, w_63_26, w_63_27, w_63_30, w_63_31, w_63_34, w_63_35, w_63_36, w_63_39, w_63_40, w_63_41, w_63_42, w_63_45, w_63_48, w_63_49, w_63_50, w_63_53, w_63_54, w_63_57, w_63_58, w_63_59, w_63_62, w_63_65, w_63_66, w_63_67, w_63_70, w_63_71, w_63_74, w_63_75, w_63_76, w_63_79, w_63_82, ic_clamp, inB_ic, e1, true_and, sv_d, c_placeAhead, c_stand, c_letOut, c_end, ne_thr, ne_thr0, app0, app1, sv_s, q1, sv_a, q2, c_letOut hw hr q2 h80, q3, driF]
  repeat' split
  all_goals simp_all only [b2i, nle, Bool.true_eq_false, reduceCtorEq, Classical.not_not, eq_self, Bool.decide_eq_true, imp_self, Bool.not_eq_true, decide_not, decide_true, decide_false, not_true_eq_false, not_false_eq_true, or_true, true_or, or_false, false_or, and_true, true_and, false_and, and_false, if_true, if_false, Bool.false_eq_true, reduceIte, Bool.or_true, Bool.true_or, Bool.or_false, Bool.false_or, Bool.and_true, Bool.true_and, Bool.and_false, Bool.false_and, Bool.not_true, Bool.not_false, ne_eq, iff_self, or_self, and_self]
end
