/-! THE WORLD'S METHODS: what a rule is worth -/
section
variable {u : Nat × Nat} {L : Nat} {xs : Nat → Int32} {X : Nat → Nat → Int32} {Z : Nat → Nat → Int64} {K : List Value → AH → Prop} {w : Nat} {V : Nat → Nat → Int32}
def lasP (V : Nat → Nat → Int32) (r k : Nat) : Bool := decide (¬ k = r ∧ V 6 k = 0 ∧ V 2 k = V 2 r)
theorem l_last (hw : isWd w) {r n : Nat} (hr : r < 12) (hn : V 1 0 = ic n) (h12 : n ≤ 12) : ∀ d k, k + d = n → (WP 3 0 2 [.ref (w + 1), .int (ic r), .int (ic k)] [] (hW u L xs X Z w V) K ↔ K [.int (b2i (!exB (lasP V r) k d))] (hW u L xs X Z w V)) := by
  have e1 : (r < 12) = True := eq_true hr
  intro d
  induction d with
  | zero =>
    intro k hk
    have e : (n ≤ k) = True := eq_true (by omega)
    rw [w_3_2]
    simp (disch := first | assumption | omega) only [en_3, w_3_0, w_3_1, w_3_3, w_3_4, w_3_7, w_3_11, w_3_12, w_3_15, w_3_16, w_3_19, w_3_20, w_3_21, w_3_24, w_3_25, w_3_28, w_3_29, w_3_30, w_3_31, w_3_34, w_3_35, w_3_36, w_3_39, w_3_40, w_3_41, w_3_44, w_3_47, w_3_48, hn, ic_le, e, if_true, zb1, true_and, exB, Bool.not_false, b2i_t]
  | succ d ih =>
    intro k hk
    have e : (n ≤ k) = False := eq_false (by omega)
    have e2 : (k < 12) = True := eq_true (by omega)
    have q := ih (k + 1) (by omega)
    rw [w_3_2]
    simp (disch := first | assumption | omega) only [en_3, w_3_0, w_3_1, w_3_3, w_3_4, w_3_7, w_3_10, w_3_11, w_3_12, w_3_15, w_3_16, w_3_19, w_3_20, w_3_21, w_3_24, w_3_25, w_3_28, w_3_29, w_3_30, w_3_31, w_3_34, w_3_35, w_3_36, w_3_39, w_3_40, w_3_41, w_3_44, w_3_47, w_3_48, hn, ic_le, e, if_false, ic_clamp, inB_ic, e1, e2, ic_eq, zb0, true_and, ic_add1, q, exB, lasP]
    clear q ih
    repeat' split
    all_goals simp_all only [b2i, nle, Bool.true_eq_false, reduceCtorEq, Classical.not_not, eq_self, Bool.decide_eq_true, imp_self, Bool.not_eq_true, decide_not, decide_true, decide_false, not_true_eq_false, not_false_eq_true, or_true, true_or, or_false, false_or, and_true, true_and, false_and, and_false, if_true, if_false, Bool.false_eq_true, reduceIte, Bool.or_true, Bool.true_or, Bool.or_false, Bool.false_or, Bool.and_true, Bool.true_and, Bool.and_false, Bool.false_and, Bool.not_true, Bool.not_false, ne_eq, iff_self, or_self, and_self]
theorem c_last (hw : isWd w) {r n : Nat} (hr : r < 12) (hn : V 1 0 = ic n) (h12 : n ≤ 12) : Call 3 [.ref (w + 1), .int (ic r)] (hW u L xs X Z w V) K ↔ K [.int (b2i (!exB (lasP V r) 0 n))] (hW u L xs X Z w V) := by
  rw [en_3, w_3_0, w_3_1, ic_z, l_last hw hr hn h12 n 0 (by omega)]
def dueS (X : Nat → Nat → Int32) (k : Nat) (a : Int32) : Int32 := a + (X 2 k + 1)
theorem ic_pred {n : Nat} (h : 1 ≤ n) : ic n - 1 = ic (n - 1) := by
  obtain ⟨m, rfl⟩ : ∃ m, n = m + 1 := ⟨n - 1, by omega⟩
  rw [← ic_add1]
  simp
theorem l_late (hw : isWd w) {r np hi : Nat} {l2 : Value} (hp : X 1 0 = ic np) (h10 : np ≤ 10) (h1 : 1 ≤ np) (hh : hi < np) : ∀ d k a, k + d = hi → (WP 74 0 74 [.ref (w + 0), .int (ic r), l2, .int (ic hi), .int a, .int (ic k)] [] (hW u L xs X Z w V) K ↔ K [.int (V 0 5 - itr (dueS X) k d a)] (hW u L xs X Z w V)) := by
  intro d
  induction d with
  | zero =>
    intro k a hk
    have e : (hi ≤ k) = True := eq_true (by omega)
    rw [w_74_74]
    simp (disch := first | assumption | omega) only [en_74, w_74_0, w_74_1, w_74_4, w_74_7, w_74_8, w_74_9, w_74_12, w_74_13, w_74_16, w_74_17, w_74_20, w_74_23, w_74_24, w_74_25, w_74_26, w_74_27, w_74_30, w_74_33, w_74_34, w_74_35, w_74_38, w_74_39, w_74_42, w_74_45, w_74_46, w_74_47, w_74_50, w_74_51, w_74_54, w_74_57, w_74_58, w_74_59, w_74_60, w_74_61, w_74_64, w_74_67, w_74_68, w_74_69, w_74_71, w_74_72, w_74_76, w_74_79, w_74_81, w_74_82, w_74_87, w_74_89, w_74_92, w_74_94, w_74_95, w_74_98, w_74_101, w_74_103, w_74_104, w_74_105, w_74_106, w_74_107, w_74_109, w_74_112, w_74_115, w_74_116, w_74_119, w_74_121, w_74_122, ic_neg, if_false, ic_le, e, if_true, itr]
  | succ d ih =>
    intro k a hk
    have e : (hi ≤ k) = False := eq_false (by omega)
    have e2 : (k < 10) = True := eq_true (by omega)
    have e3 : ((10 : Int32) ≤ ic k) = False := by
      rw [show (10 : Int32) = ic 10 from rfl, ic_le (by omega) (by omega)]
      exact eq_false (by omega)
    rw [w_74_74]
    simp (disch := first | assumption | omega) only [en_74, w_74_0, w_74_1, w_74_4, w_74_7, w_74_8, w_74_9, w_74_12, w_74_13, w_74_16, w_74_17, w_74_20, w_74_23, w_74_24, w_74_25, w_74_26, w_74_27, w_74_30, w_74_33, w_74_34, w_74_35, w_74_38, w_74_39, w_74_42, w_74_45, w_74_46, w_74_47, w_74_50, w_74_51, w_74_54, w_74_57, w_74_58, w_74_59, w_74_60, w_74_61, w_74_64, w_74_67, w_74_68, w_74_69, w_74_71, w_74_72, w_74_76, w_74_79, w_74_81, w_74_82, w_74_85, w_74_87, w_74_89, w_74_92, w_74_94, w_74_95, w_74_98, w_74_101, w_74_103, w_74_104, w_74_105, w_74_106, w_74_107, w_74_109, w_74_112, w_74_115, w_74_116, w_74_119, w_74_121, w_74_122, ic_neg, ic_le, e, e3, if_false, true_and, ic_clamp, inB_ic, e2, ic_add1, ih (k + 1) _ (by omega), itr, dueS]
def lateF (X V : Nat → Nat → Int32) (r p np : Nat) : Int32 := V 0 5 - (if V 2 r = 0 then itr (dueS X) p (np - 1 - p) (V 5 r) else itr (dueS X) 0 p (V 5 r))
theorem c_late (hw : isWd w) {r np p : Nat} (hr : r < 12) (hp : X 1 0 = ic np) (h10 : np ≤ 10) (hv : V 7 r = ic p) (hh : p < np) : Call 74 [.ref (w + 0), .int (ic r)] (hW u L xs X Z w V) K ↔ K [.int (lateF X V r p np)] (hW u L xs X Z w V) := by
  have e1 : (r < 12) = True := eq_true hr
  simp (disch := first | assumption | omega) only [en_74, w_74_0, w_74_1, w_74_4, w_74_7, w_74_8, w_74_9, w_74_12, w_74_13, w_74_16, w_74_17, w_74_20, w_74_23, w_74_24, w_74_25, w_74_26, w_74_27, w_74_30, w_74_33, w_74_34, w_74_35, w_74_38, w_74_39, w_74_42, w_74_45, w_74_46, w_74_47, w_74_50, w_74_51, w_74_54, w_74_57, w_74_58, w_74_59, w_74_60, w_74_61, w_74_64, w_74_67, w_74_68, w_74_69, w_74_71, w_74_72, w_74_76, w_74_79, w_74_81, w_74_82, w_74_85, w_74_87, w_74_89, w_74_92, w_74_94, w_74_95, w_74_98, w_74_101, w_74_103, w_74_104, w_74_105, w_74_106, w_74_107, w_74_109, w_74_112, w_74_115, w_74_116, w_74_119, w_74_121, w_74_122, ic_clamp, inB_ic, e1, true_and]
  unfold lateF
  by_cases c : V 2 r = 0
  · simp (disch := first | assumption | omega) only [c, if_true, hv, hp, ic_pred]
    rw [l_late hw hp h10 (by omega) (hi := np - 1) (by omega) (np - 1 - p) p _ (by omega)]
  · simp (disch := first | assumption | omega) only [c, if_false, hv, hp, ic_pred]
    rw [ic_z, l_late hw hp h10 (by omega) (hi := p) (by omega) p 0 _ (by omega)]
def remI (x y : Int32) : Int32 := x - x / y * y
def facF (X V : Nat → Nat → Int32) (r p np n : Nat) (kd nu : Int32) : Int32 :=
  if kd = 133 then b2i (decide (¬ V 2 r = 0)) else if kd = 134 then V 9 r else if kd = 135 then V 10 r else if kd = 136 then lateF X V r p np else if kd = 137 then b2i (!exB (lasP V r) 0 n) else if kd = 138 then remI (V 0 5 / 60) 24 else if kd = 139 then traF X nu (V 7 r) (V 0 5) else nu
theorem n133 {x : Int32} (h1 : ¬ x = 133) (h2 : ¬ x = 134) (h3 : ¬ x = 135) (h4 : ¬ x = 136) (h5 : ¬ x = 137) (h6 : ¬ x = 138) (h7 : ¬ x = 139) : x.toInt < 133 ∨ 139 < x.toInt := by
  have a1 := mt Int32.toInt_inj.mp h1
  have a2 := mt Int32.toInt_inj.mp h2
  have a3 := mt Int32.toInt_inj.mp h3
  have a4 := mt Int32.toInt_inj.mp h4
  have a5 := mt Int32.toInt_inj.mp h5
  have a6 := mt Int32.toInt_inj.mp h6
  have a7 := mt Int32.toInt_inj.mp h7
  simp only [show (133 : Int32).toInt = 133 from rfl, show (134 : Int32).toInt = 134 from rfl, show (135 : Int32).toInt = 135 from rfl, show (136 : Int32).toInt = 136 from rfl, show (137 : Int32).toInt = 137 from rfl, show (138 : Int32).toInt = 138 from rfl, show (139 : Int32).toInt = 139 from rfl] at a1 a2 a3 a4 a5 a6 a7
  omega
theorem c_fact (hw : isWd w) {r np p n : Nat} {kd nu : Int32} (hr : r < 12) (hp : X 1 0 = ic np) (h10 : np ≤ 10) (hv : V 7 r = ic p) (hh : p < np) (hn : V 1 0 = ic n) (h12 : n ≤ 12) : Call 73 [.ref (w + 0), .int kd, .int nu, .int (ic r)] (hW u L xs X Z w V) K ↔ K [.int (facF X V r p np n kd nu)] (hW u L xs X Z w V) := by
  have e1 : (r < 12) = True := eq_true hr
  rw [en_73, w_73_0]
  unfold facF
  by_cases c1 : kd = 133
  · subst c1
    rw [w_73_1_c133]
    simp (disch := first | assumption | omega) only [en_73, w_73_44, w_73_45, w_73_48, w_73_51, w_73_52, w_73_53, w_73_56, w_73_57, w_73_60, w_73_61, w_73_62, w_73_63, w_73_66, w_73_69, w_73_70, w_73_71, w_73_72, w_73_73, w_73_76, w_73_79, w_73_80, w_73_81, w_73_82, w_73_83, w_73_84, w_73_87, w_73_88, w_73_89, w_73_92, w_73_93, w_73_96, w_73_99, w_73_100, w_73_103, w_73_104, w_73_105, w_73_106, w_73_109, w_73_111, w_73_112, w_73_114, w_73_115, w_73_116, w_73_117, w_73_120, w_73_121, w_73_122, w_73_125, w_73_128, w_73_129, w_73_130, w_73_131, w_73_134, w_73_137, w_73_138, w_73_139, ic_clamp, inB_ic, e1, true_and, if_true]
    by_cases c : V 2 r = 0 <;> simp [c, b2i]
  by_cases c2 : kd = 134
  · subst c2
    rw [w_73_1_c134]
    simp (disch := first | assumption | omega) only [en_73, w_73_44, w_73_45, w_73_48, w_73_51, w_73_52, w_73_53, w_73_56, w_73_57, w_73_60, w_73_61, w_73_62, w_73_63, w_73_66, w_73_69, w_73_70, w_73_71, w_73_72, w_73_73, w_73_76, w_73_79, w_73_80, w_73_81, w_73_82, w_73_83, w_73_84, w_73_87, w_73_88, w_73_89, w_73_92, w_73_93, w_73_96, w_73_99, w_73_100, w_73_103, w_73_104, w_73_105, w_73_106, w_73_109, w_73_111, w_73_112, w_73_114, w_73_115, w_73_116, w_73_117, w_73_120, w_73_121, w_73_122, w_73_125, w_73_128, w_73_129, w_73_130, w_73_131, w_73_134, w_73_137, w_73_138, w_73_139, ic_clamp, inB_ic, e1, true_and, if_true, c1, if_false]
  by_cases c3 : kd = 135
  · subst c3
    rw [w_73_1_c135]
    simp (disch := first | assumption | omega) only [en_73, w_73_44, w_73_45, w_73_48, w_73_51, w_73_52, w_73_53, w_73_56, w_73_57, w_73_60, w_73_61, w_73_62, w_73_63, w_73_66, w_73_69, w_73_70, w_73_71, w_73_72, w_73_73, w_73_76, w_73_79, w_73_80, w_73_81, w_73_82, w_73_83, w_73_84, w_73_87, w_73_88, w_73_89, w_73_92, w_73_93, w_73_96, w_73_99, w_73_100, w_73_103, w_73_104, w_73_105, w_73_106, w_73_109, w_73_111, w_73_112, w_73_114, w_73_115, w_73_116, w_73_117, w_73_120, w_73_121, w_73_122, w_73_125, w_73_128, w_73_129, w_73_130, w_73_131, w_73_134, w_73_137, w_73_138, w_73_139, ic_clamp, inB_ic, e1, true_and, if_true, c1, c2, if_false]
  by_cases c4 : kd = 136
  · subst c4
    rw [w_73_1_c136]
    simp (disch := first | assumption | omega) only [en_73, w_73_44, w_73_45, w_73_48, w_73_51, w_73_52, w_73_53, w_73_56, w_73_57, w_73_60, w_73_61, w_73_62, w_73_63, w_73_66, w_73_69, w_73_70, w_73_71, w_73_72, w_73_73, w_73_76, w_73_79, w_73_80, w_73_81, w_73_82, w_73_83, w_73_84, w_73_87, w_73_88, w_73_89, w_73_92, w_73_93, w_73_96, w_73_99, w_73_100, w_73_103, w_73_104, w_73_105, w_73_106, w_73_109, w_73_111, w_73_112, w_73_114, w_73_115, w_73_116, w_73_117, w_73_120, w_73_121, w_73_122, w_73_125, w_73_128, w_73_129, w_73_130, w_73_131, w_73_134, w_73_137, w_73_138, w_73_139, ic_clamp, inB_ic, e1, true_and, if_true, c1, c2, c3, if_false, c_late hw hr hp h10 hv hh, ne_thr, app1]
  by_cases c5 : kd = 137
  · subst c5
    rw [w_73_1_c137]
    simp (disch := first | assumption | omega) only [en_73, w_73_44, w_73_45, w_73_48, w_73_51, w_73_52, w_73_53, w_73_56, w_73_57, w_73_60, w_73_61, w_73_62, w_73_63, w_73_66, w_73_69, w_73_70, w_73_71, w_73_72, w_73_73, w_73_76, w_73_79, w_73_80, w_73_81, w_73_82, w_73_83, w_73_84, w_73_87, w_73_88, w_73_89, w_73_92, w_73_93, w_73_96, w_73_99, w_73_100, w_73_103, w_73_104, w_73_105, w_73_106, w_73_109, w_73_111, w_73_112, w_73_114, w_73_115, w_73_116, w_73_117, w_73_120, w_73_121, w_73_122, w_73_125, w_73_128, w_73_129, w_73_130, w_73_131, w_73_134, w_73_137, w_73_138, w_73_139, ic_clamp, inB_ic, e1, true_and, if_true, c1, c2, c3, c4, if_false, c_last hw hr hn h12, ne_thr, app1, b2i_z]
    cases exB (lasP V r) 0 n <;> simp [b2i]
  by_cases c6 : kd = 138
  · subst c6
    rw [w_73_1_c138]
    simp (disch := first | assumption | omega | decide) only [en_73, w_73_44, w_73_45, w_73_48, w_73_51, w_73_52, w_73_53, w_73_56, w_73_57, w_73_60, w_73_61, w_73_62, w_73_63, w_73_66, w_73_69, w_73_70, w_73_71, w_73_72, w_73_73, w_73_76, w_73_79, w_73_80, w_73_81, w_73_82, w_73_83, w_73_84, w_73_87, w_73_88, w_73_89, w_73_92, w_73_93, w_73_96, w_73_99, w_73_100, w_73_103, w_73_104, w_73_105, w_73_106, w_73_109, w_73_111, w_73_112, w_73_114, w_73_115, w_73_116, w_73_117, w_73_120, w_73_121, w_73_122, w_73_125, w_73_128, w_73_129, w_73_130, w_73_131, w_73_134, w_73_137, w_73_138, w_73_139, ic_clamp, inB_ic, e1, true_and, if_true, c1, c2, c3, c4, c5, if_false, remI]
  by_cases c7 : kd = 139
  · subst c7
    rw [w_73_1_c139]
    simp (disch := first | assumption | omega) only [en_73, w_73_44, w_73_45, w_73_48, w_73_51, w_73_52, w_73_53, w_73_56, w_73_57, w_73_60, w_73_61, w_73_62, w_73_63, w_73_66, w_73_69, w_73_70, w_73_71, w_73_72, w_73_73, w_73_76, w_73_79, w_73_80, w_73_81, w_73_82, w_73_83, w_73_84, w_73_87, w_73_88, w_73_89, w_73_92, w_73_93, w_73_96, w_73_99, w_73_100, w_73_103, w_73_104, w_73_105, w_73_106, w_73_109, w_73_111, w_73_112, w_73_114, w_73_115, w_73_116, w_73_117, w_73_120, w_73_121, w_73_122, w_73_125, w_73_128, w_73_129, w_73_130, w_73_131, w_73_134, w_73_137, w_73_138, w_73_139, ic_clamp, inB_ic, e1, true_and, if_true, c1, c2, c3, c4, c5, c6, if_false, cw_minutesUntilTrain hw, ne_thr, app1]
  · rw [w_73_1_df (n133 c1 c2 c3 c4 c5 c6 c7)]
    simp only [en_73, w_73_44, w_73_45, w_73_48, w_73_51, w_73_52, w_73_53, w_73_56, w_73_57, w_73_60, w_73_61, w_73_62, w_73_63, w_73_66, w_73_69, w_73_70, w_73_71, w_73_72, w_73_73, w_73_76, w_73_79, w_73_80, w_73_81, w_73_82, w_73_83, w_73_84, w_73_87, w_73_88, w_73_89, w_73_92, w_73_93, w_73_96, w_73_99, w_73_100, w_73_103, w_73_104, w_73_105, w_73_106, w_73_109, w_73_111, w_73_112, w_73_114, w_73_115, w_73_116, w_73_117, w_73_120, w_73_121, w_73_122, w_73_125, w_73_128, w_73_129, w_73_130, w_73_131, w_73_134, w_73_137, w_73_138, w_73_139, c1, c2, c3, c4, c5, c6, c7, if_false]
def joiF (c a b : Int32) : Int32 := if c = 43 then a + b else if c = 45 then a - b else if c = 60 then b2i (decide (a < b)) else if c = 61 then b2i (decide (a = b)) else b2i (decide (¬ a = 0 ∧ ¬ b = 0))
theorem c_join {h : AH} {c a b : Int32} : Call 72 [.int c, .int a, .int b] h K ↔ K [.int (joiF c a b)] h := by
  rw [en_72 (w := 0), w_72_0]
  unfold joiF
  by_cases c1 : c = 43
  · subst c1
    rw [w_72_1_c43]
    simp only [en_72, w_72_44, w_72_45, w_72_46, w_72_47, w_72_48, w_72_49, w_72_50, w_72_51, w_72_52, w_72_53, w_72_54, w_72_57, w_72_58, w_72_61, w_72_62, w_72_63, w_72_64, w_72_65, w_72_68, w_72_69, w_72_72, w_72_73, w_72_74, w_72_75, w_72_78, w_72_79, w_72_82, w_72_83, w_72_86, w_72_87, if_true]
  by_cases c2 : c = 45
  · subst c2
    rw [w_72_1_c45]
    simp only [en_72, w_72_44, w_72_45, w_72_46, w_72_47, w_72_48, w_72_49, w_72_50, w_72_51, w_72_52, w_72_53, w_72_54, w_72_57, w_72_58, w_72_61, w_72_62, w_72_63, w_72_64, w_72_65, w_72_68, w_72_69, w_72_72, w_72_73, w_72_74, w_72_75, w_72_78, w_72_79, w_72_82, w_72_83, w_72_86, w_72_87, if_true, if_false, c1]
  by_cases c3 : c = 60
  · subst c3
    rw [w_72_1_c60]
    simp only [en_72, w_72_44, w_72_45, w_72_46, w_72_47, w_72_48, w_72_49, w_72_50, w_72_51, w_72_52, w_72_53, w_72_54, w_72_57, w_72_58, w_72_61, w_72_62, w_72_63, w_72_64, w_72_65, w_72_68, w_72_69, w_72_72, w_72_73, w_72_74, w_72_75, w_72_78, w_72_79, w_72_82, w_72_83, w_72_86, w_72_87, if_true, if_false, c1, c2, nle]
    by_cases q : a < b <;> simp [q, b2i]
  by_cases c4 : c = 61
  · subst c4
    rw [w_72_1_c61]
    simp only [en_72, w_72_44, w_72_45, w_72_46, w_72_47, w_72_48, w_72_49, w_72_50, w_72_51, w_72_52, w_72_53, w_72_54, w_72_57, w_72_58, w_72_61, w_72_62, w_72_63, w_72_64, w_72_65, w_72_68, w_72_69, w_72_72, w_72_73, w_72_74, w_72_75, w_72_78, w_72_79, w_72_82, w_72_83, w_72_86, w_72_87, if_true, if_false, c1, c2, c3]
    by_cases q : a = b <;> simp [q, b2i]
  · rw [w_72_1_df (by
      have a1 := mt Int32.toInt_inj.mp c1
      have a2 := mt Int32.toInt_inj.mp c2
      have a3 := mt Int32.toInt_inj.mp c3
      have a4 := mt Int32.toInt_inj.mp c4
      simp only [show (43 : Int32).toInt = 43 from rfl, show (45 : Int32).toInt = 45 from rfl, show (60 : Int32).toInt = 60 from rfl, show (61 : Int32).toInt = 61 from rfl] at a1 a2 a3 a4
      simp [Op.lookupswitch.offset, a1, a2, a3, a4, Ne.symm a1, Ne.symm a2, Ne.symm a3, Ne.symm a4, eq_comm (b := c.toInt), tgO])]
    simp only [en_72, w_72_44, w_72_45, w_72_46, w_72_47, w_72_48, w_72_49, w_72_50, w_72_51, w_72_52, w_72_53, w_72_54, w_72_57, w_72_58, w_72_61, w_72_62, w_72_63, w_72_64, w_72_65, w_72_68, w_72_69, w_72_72, w_72_73, w_72_74, w_72_75, w_72_78, w_72_79, w_72_82, w_72_83, w_72_86, w_72_87, if_true, if_false, c1, c2, c3, c4]
    by_cases q : a = 0 <;> by_cases q2 : b = 0 <;> simp [q, q2, b2i]
end
