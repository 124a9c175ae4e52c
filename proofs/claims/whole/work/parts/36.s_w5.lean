/-! THE WORLD'S METHODS: what a line is worth, is a run held, a minute -/
section
variable {u : Nat × Nat} {L : Nat} {xs : Nat → Int32} {X : Nat → Nat → Int32} {Z : Nat → Nat → Int64} {K : List Value → AH → Prop} {w : Nat} {V : Nat → Nat → Int32}
def enN (X : Nat → Nat → Int32) (l : Nat) : Nat := (X 14 l).toNatClampNeg
def stN (X : Nat → Nat → Int32) (l : Nat) : Nat := if l = 0 then 0 else enN X (l - 1)
def RuOK (X : Nat → Nat → Int32) (ln sz : Nat) : Prop := X 11 0 = ic ln ∧ ln ≤ 24 ∧ X 11 5 = ic sz ∧ sz ≤ 800 ∧ ∀ l, l < ln → X 14 l = ic (enN X l) ∧ enN X l ≤ sz
theorem ru11 : isRu 11 := Or.inl rfl
theorem c_kindOf {i sz : Nat} (hs : X 11 5 = ic sz) (h8 : sz ≤ 800) (hi : i < sz) : Call 50 [.ref 11, .int (ic i)] (hX u L xs X Z) K ↔ K [.int (remI (X 15 i) 256)] (hX u L xs X Z) := by
  have e : (sz ≤ i) = False := eq_false (by omega)
  have e2 : (i < 800) = True := eq_true (by omega)
  simp (disch := first | exact ru11 | omega | decide) only [en_50, w_50_0, w_50_1, w_50_4, w_50_5, w_50_6, w_50_9, w_50_12, w_50_13, w_50_16, w_50_17, w_50_18, w_50_21, w_50_22, w_50_25, w_50_26, ic_neg, if_false, hs, ic_le, e, inB_ic, ic_clamp, e2, true_and, remI]
theorem c_numberOf {i sz : Nat} (hs : X 11 5 = ic sz) (h8 : sz ≤ 800) (hi : i < sz) : Call 51 [.ref 11, .int (ic i)] (hX u L xs X Z) K ↔ K [.int (X 15 i / 256)] (hX u L xs X Z) := by
  have e : (sz ≤ i) = False := eq_false (by omega)
  have e2 : (i < 800) = True := eq_true (by omega)
  simp (disch := first | exact ru11 | omega | decide) only [en_51, w_51_0, w_51_1, w_51_4, w_51_5, w_51_6, w_51_9, w_51_12, w_51_13, w_51_16, w_51_17, w_51_18, w_51_21, w_51_22, w_51_25, w_51_26, ic_neg, if_false, hs, ic_le, e, inB_ic, ic_clamp, e2, true_and]
theorem c_endOf {l ln : Nat} (hs : X 11 0 = ic ln) (h8 : ln ≤ 24) (hi : l < ln) : Call 49 [.ref 11, .int (ic l)] (hX u L xs X Z) K ↔ K [.int (X 14 l)] (hX u L xs X Z) := by
  have e : (ln ≤ l) = False := eq_false (by omega)
  have e2 : (l < 24) = True := eq_true (by omega)
  simp (disch := first | exact ru11 | omega | decide) only [en_49, w_49_0, w_49_1, w_49_4, w_49_5, w_49_6, w_49_9, w_49_12, w_49_13, w_49_16, w_49_17, w_49_18, w_49_21, w_49_22, ic_neg, if_false, hs, ic_le, e, inB_ic, ic_clamp, e2, true_and]
theorem c_startOf {l ln : Nat} (hs : X 11 0 = ic ln) (h8 : ln ≤ 24) (hi : l < ln) : Call 48 [.ref 11, .int (ic l)] (hX u L xs X Z) K ↔ K [.int (if l = 0 then 0 else X 14 (l - 1))] (hX u L xs X Z) := by
  have e : (ln ≤ l) = False := eq_false (by omega)
  rcases Nat.eq_zero_or_pos l with h | h
  · subst h
    simp (disch := first | exact ru11 | omega | decide) only [en_48, w_48_0, w_48_1, w_48_4, w_48_5, w_48_6, w_48_9, w_48_12, w_48_13, w_48_16, w_48_17, w_48_18, w_48_19, w_48_20, w_48_23, w_48_24, show ic 0 ≤ 0 from Int32.le_refl _, if_true]
  · have e2 : (l - 1 < 24) = True := eq_true (by omega)
    have e3 : (ic l ≤ 0) = False := by rw [ic_z, ic_le (by omega) (by omega)]; exact eq_false (by omega)
    have e4 : (l = 0) = False := eq_false (by omega)
    simp (disch := first | exact ru11 | omega | decide) only [en_48, w_48_0, w_48_1, w_48_4, w_48_5, w_48_6, w_48_9, w_48_12, w_48_13, w_48_16, w_48_17, w_48_18, w_48_19, w_48_20, w_48_23, w_48_24, if_false, e3, hs, ic_le, e, ic_pred, inB_ic, ic_clamp, e2, e4, true_and]
theorem cw_kindOf (hw : isWd w) {i sz : Nat} (hs : X 11 5 = ic sz) (h8 : sz ≤ 800) (hi : i < sz) : Call 50 [.ref 11, .int (ic i)] (hW u L xs X Z w V) K ↔ K [.int (remI (X 15 i) 256)] (hW u L xs X Z w V) := by
  unfold hW
  rw [c_kindOf (sz := sz) (by rw [pw_lo hw (by decide)]; exact hs) h8 hi, pw_lo hw (by decide)]
theorem cw_numberOf (hw : isWd w) {i sz : Nat} (hs : X 11 5 = ic sz) (h8 : sz ≤ 800) (hi : i < sz) : Call 51 [.ref 11, .int (ic i)] (hW u L xs X Z w V) K ↔ K [.int (X 15 i / 256)] (hW u L xs X Z w V) := by
  unfold hW
  rw [c_numberOf (sz := sz) (by rw [pw_lo hw (by decide)]; exact hs) h8 hi, pw_lo hw (by decide)]
theorem cw_endOf (hw : isWd w) {l ln : Nat} (hs : X 11 0 = ic ln) (h8 : ln ≤ 24) (hi : l < ln) : Call 49 [.ref 11, .int (ic l)] (hW u L xs X Z w V) K ↔ K [.int (X 14 l)] (hW u L xs X Z w V) := by
  unfold hW
  rw [c_endOf (ln := ln) (by rw [pw_lo hw (by decide)]; exact hs) h8 hi, pw_lo hw (by decide)]
theorem cw_startOf (hw : isWd w) {l ln : Nat} (hs : X 11 0 = ic ln) (h8 : ln ≤ 24) (hi : l < ln) : Call 48 [.ref 11, .int (ic l)] (hW u L xs X Z w V) K ↔ K [.int (if l = 0 then 0 else X 14 (l - 1))] (hW u L xs X Z w V) := by
  unfold hW
  rw [c_startOf (ln := ln) (by rw [pw_lo hw (by decide)]; exact hs) h8 hi, pw_lo hw (by decide)]
/-- the stack put anew -/
def sk (V : Nat → Nat → Int32) (S : Nat → Int32) : Nat → Nat → Int32 := va_up V 23 S
theorem sk_n {S : Nat → Int32} {a : Nat} (h : a ≠ 23) : sk V S a = V a := by simp [sk, va_up, h]
theorem sk_s {S : Nat → Int32} : sk V S 23 = S := by simp [sk, va_up]
theorem sk_k {S S' : Nat → Int32} : sk (sk V S) S' = sk V S' := by
  funext a
  unfold sk va_up
  by_cases h : a = 23 <;> simp [h]
theorem sk_v : sk V (V 23) = V := by
  funext a
  unfold sk va_up
  by_cases h : a = 23 <;> simp [h]
theorem sk_d {S S' : Nat → Int32} : va_up (sk V S) 23 S' = sk V S' := sk_k
def stpF (X V : Nat → Nat → Int32) (r p np n : Nat) (i : Nat) (a : Nat × (Nat → Int32)) : Nat × (Nat → Int32) :=
  if remI (X 15 i) 256 = 128 ∨ ¬ remI (X 15 i) 256 < 133 then (if a.1 < 32 then (a.1 + 1, upd a.2 a.1 (facF X V r p np n (remI (X 15 i) 256) (X 15 i / 256))) else a)
  else (if 2 ≤ a.1 then (a.1 - 1, upd a.2 (a.1 - 2) (joiF (remI (X 15 i) 256) (a.2 (a.1 - 2)) (a.2 (a.1 - 1)))) else a)
theorem facF_sk {S : Nat → Int32} {r p np n : Nat} : facF X (sk V S) r p np n = facF X V r p np n := by
  funext kd nu
  have e : lasP (sk V S) r = lasP V r := by
    funext k
    unfold lasP
    simp (disch := omega) only [sk_n]
  unfold facF lateF
  simp (disch := omega) only [sk_n, e]
theorem s_value (hw : isWd w) {r np p n i t : Nat} {S : Nat → Int32} {l1 l4 : Value} {l6 : Value} {sz : Nat} (hr : r < 12) (hp : X 1 0 = ic np) (h10 : np ≤ 10) (hv : V 7 r = ic p) (hh : p < np) (hn : V 1 0 = ic n) (h12 : n ≤ 12) (hs : X 11 5 = ic sz) (h8 : sz ≤ 800) (hi : i < sz) (ht : t ≤ 32) : WP 71 0 29 [.ref (w + 0), l1, .int (ic r), .int (ic t), l4, .int (ic i), l6] [] (hW u L xs X Z w (sk V S)) K ↔ WP 71 0 22 [.ref (w + 0), l1, .int (ic r), .int (ic (stpF X V r p np n i (t, S)).1), l4, .int (ic (i + 1)), .int (remI (X 15 i) 256)] [] (hW u L xs X Z w (sk V (stpF X V r p np n i (t, S)).2)) K := by
  have g1 : (sk V S) 7 r = ic p := by rw [sk_n (by decide)]; exact hv
  have g2 : (sk V S) 1 0 = ic n := by rw [sk_n (by decide)]; exact hn
  unfold stpF
  by_cases c : remI (X 15 i) 256 = 128 ∨ ¬ remI (X 15 i) 256 < 133
  · by_cases c2 : t < 32
    · have e1 : (32 ≤ t) = False := eq_false (by omega)
      have e2 : (t < 32) = True := eq_true c2
      have key : WP 71 0 56 [.ref (w + 0), l1, .int (ic r), .int (ic t), l4, .int (ic i), .int (remI (X 15 i) 256)] [] (hW u L xs X Z w (sk V S)) K ↔ WP 71 0 22 [.ref (w + 0), l1, .int (ic r), .int (ic (t + 1)), l4, .int (ic (i + 1)), .int (remI (X 15 i) 256)] [] (hW u L xs X Z w (sk V (upd S t (facF X V r p np n (remI (X 15 i) 256) (X 15 i / 256))))) K := by
        simp (disch := first | assumption | omega) only [en_71, w_71_0, w_71_1, w_71_2, w_71_3, w_71_6, w_71_7, w_71_10, w_71_12, w_71_13, w_71_16, w_71_17, w_71_20, w_71_24, w_71_26, w_71_29, w_71_30, w_71_33, w_71_35, w_71_38, w_71_40, w_71_42, w_71_45, w_71_48, w_71_50, w_71_53, w_71_56, w_71_57, w_71_59, w_71_62, w_71_63, w_71_66, w_71_67, w_71_68, w_71_70, w_71_71, w_71_74, w_71_76, w_71_79, w_71_80, w_71_83, w_71_84, w_71_87, w_71_90, w_71_91, w_71_92, w_71_95, w_71_98, w_71_99, w_71_102, w_71_103, w_71_104, w_71_105, w_71_107, w_71_108, w_71_111, w_71_112, w_71_113, w_71_114, w_71_115, w_71_116, w_71_119, w_71_120, w_71_121, w_71_124, w_71_125, w_71_128, w_71_131, w_71_132, w_71_135, w_71_136, w_71_139, w_71_140, w_71_141, w_71_144, w_71_145, show (32 : Int32) = ic 32 from rfl, ic_le, e1, if_false, cw_numberOf hw hs h8 hi, ne_thr, app1, true_and, List.cons_append, List.nil_append, c_fact hw hr hp h10 g1 hh g2 h12, facF_sk, ic_clamp, inB_ic, e2, sk_s, sk_d, ic_add1]
      simp (disch := first | assumption | omega) only [en_71, w_71_0, w_71_1, w_71_2, w_71_3, w_71_6, w_71_7, w_71_10, w_71_12, w_71_13, w_71_16, w_71_17, w_71_20, w_71_24, w_71_26, w_71_29, w_71_30, w_71_33, w_71_35, w_71_38, w_71_40, w_71_42, w_71_45, w_71_48, w_71_50, w_71_53, w_71_57, w_71_59, w_71_62, w_71_63, w_71_66, w_71_67, w_71_68, w_71_70, w_71_71, w_71_74, w_71_76, w_71_79, w_71_80, w_71_83, w_71_84, w_71_87, w_71_91, w_71_92, w_71_95, w_71_98, w_71_99, w_71_102, w_71_103, w_71_104, w_71_105, w_71_107, w_71_108, w_71_111, w_71_112, w_71_113, w_71_114, w_71_115, w_71_116, w_71_119, w_71_120, w_71_121, w_71_124, w_71_125, w_71_128, w_71_131, w_71_132, w_71_135, w_71_136, w_71_139, w_71_140, w_71_141, w_71_144, w_71_145, cw_kindOf hw hs h8 hi, ne_thr, app1, true_and, List.cons_append, List.nil_append, c, if_true, e2, key]
      by_cases c3 : remI (X 15 i) 256 = 128
      · simp only [c3, if_true]
      · have c4 : ¬ remI (X 15 i) 256 < 133 := c.resolve_left c3
        simp only [c3, c4, if_false]
    · have e1 : (32 ≤ t) = True := eq_true (by omega)
      have e2 : (t < 32) = False := eq_false c2
      have key : WP 71 0 56 [.ref (w + 0), l1, .int (ic r), .int (ic t), l4, .int (ic i), .int (remI (X 15 i) 256)] [] (hW u L xs X Z w (sk V S)) K ↔ WP 71 0 22 [.ref (w + 0), l1, .int (ic r), .int (ic t), l4, .int (ic (i + 1)), .int (remI (X 15 i) 256)] [] (hW u L xs X Z w (sk V S)) K := by
        simp (disch := first | assumption | omega) only [en_71, w_71_0, w_71_1, w_71_2, w_71_3, w_71_6, w_71_7, w_71_10, w_71_12, w_71_13, w_71_16, w_71_17, w_71_20, w_71_24, w_71_26, w_71_29, w_71_30, w_71_33, w_71_35, w_71_38, w_71_40, w_71_42, w_71_45, w_71_48, w_71_50, w_71_53, w_71_56, w_71_57, w_71_59, w_71_63, w_71_66, w_71_67, w_71_68, w_71_70, w_71_71, w_71_74, w_71_76, w_71_79, w_71_80, w_71_83, w_71_84, w_71_87, w_71_90, w_71_91, w_71_92, w_71_95, w_71_98, w_71_99, w_71_102, w_71_103, w_71_104, w_71_105, w_71_107, w_71_108, w_71_111, w_71_112, w_71_113, w_71_114, w_71_115, w_71_116, w_71_119, w_71_120, w_71_121, w_71_124, w_71_125, w_71_128, w_71_131, w_71_132, w_71_135, w_71_136, w_71_139, w_71_140, w_71_141, w_71_144, w_71_145, show (32 : Int32) = ic 32 from rfl, ic_le, e1, if_true, ic_add1]
      simp (disch := first | assumption | omega) only [en_71, w_71_0, w_71_1, w_71_2, w_71_3, w_71_6, w_71_7, w_71_10, w_71_12, w_71_13, w_71_16, w_71_17, w_71_20, w_71_24, w_71_26, w_71_29, w_71_30, w_71_33, w_71_35, w_71_38, w_71_40, w_71_42, w_71_45, w_71_48, w_71_50, w_71_53, w_71_57, w_71_59, w_71_62, w_71_63, w_71_66, w_71_67, w_71_68, w_71_70, w_71_71, w_71_74, w_71_76, w_71_79, w_71_80, w_71_83, w_71_84, w_71_87, w_71_91, w_71_92, w_71_95, w_71_98, w_71_99, w_71_102, w_71_103, w_71_104, w_71_105, w_71_107, w_71_108, w_71_111, w_71_112, w_71_113, w_71_114, w_71_115, w_71_116, w_71_119, w_71_120, w_71_121, w_71_124, w_71_125, w_71_128, w_71_131, w_71_132, w_71_135, w_71_136, w_71_139, w_71_140, w_71_141, w_71_144, w_71_145, cw_kindOf hw hs h8 hi, ne_thr, app1, true_and, List.cons_append, List.nil_append, c, if_true, e2, if_false, key]
      by_cases c3 : remI (X 15 i) 256 = 128
      · simp only [c3, if_true]
      · have c4 : ¬ remI (X 15 i) 256 < 133 := c.resolve_left c3
        simp only [c3, c4, if_false]
  · have c3 : ¬ remI (X 15 i) 256 = 128 := fun q => c (Or.inl q)
    have c4 : remI (X 15 i) 256 < 133 := Classical.not_not.mp fun q => c (Or.inr q)
    by_cases c2 : 2 ≤ t
    · have e1 : (t < 2) = False := eq_false (by omega)
      have e2 : (2 ≤ t) = True := eq_true c2
      have e3 : (t - 2 < 32) = True := eq_true (by omega)
      have e4 : (t - 1 < 32) = True := eq_true (by omega)
      have e5 : ic t + -1 = ic (t - 1) := by
        rw [show t = (t - 1) + 1 by omega, ic_subn]
        rfl
      have e6 : ic (t - 1) - 1 = ic (t - 2) := by rw [ic_pred (by omega)]; rfl
      simp (disch := first | assumption | omega) only [en_71, w_71_0, w_71_1, w_71_2, w_71_3, w_71_6, w_71_7, w_71_10, w_71_12, w_71_13, w_71_16, w_71_17, w_71_20, w_71_24, w_71_26, w_71_29, w_71_30, w_71_33, w_71_35, w_71_38, w_71_40, w_71_42, w_71_45, w_71_48, w_71_50, w_71_53, w_71_57, w_71_59, w_71_62, w_71_63, w_71_66, w_71_67, w_71_68, w_71_70, w_71_71, w_71_74, w_71_76, w_71_79, w_71_80, w_71_83, w_71_84, w_71_87, w_71_90, w_71_91, w_71_92, w_71_95, w_71_98, w_71_99, w_71_102, w_71_103, w_71_104, w_71_105, w_71_107, w_71_108, w_71_111, w_71_112, w_71_113, w_71_114, w_71_115, w_71_116, w_71_119, w_71_120, w_71_121, w_71_124, w_71_125, w_71_128, w_71_131, w_71_132, w_71_135, w_71_136, w_71_139, w_71_140, w_71_141, w_71_144, w_71_145, cw_kindOf hw hs h8 hi, ne_thr, app1, true_and, List.cons_append, List.nil_append, c, c3, c4, if_true, if_false, show (2 : Int32) = ic 2 from rfl, ic_lt, e1, e2, e5, e6, ic_clamp, inB_ic, e3, e4, c_join, sk_s, sk_d, ic_add1, not_true_eq_false, or_self]
    · have e1 : (t < 2) = True := eq_true (by omega)
      have e2 : (2 ≤ t) = False := eq_false c2
      simp (disch := first | assumption | omega) only [en_71, w_71_0, w_71_1, w_71_2, w_71_3, w_71_6, w_71_7, w_71_10, w_71_12, w_71_13, w_71_16, w_71_17, w_71_20, w_71_24, w_71_26, w_71_29, w_71_30, w_71_33, w_71_35, w_71_38, w_71_40, w_71_42, w_71_45, w_71_48, w_71_50, w_71_53, w_71_57, w_71_59, w_71_62, w_71_63, w_71_66, w_71_67, w_71_68, w_71_70, w_71_71, w_71_74, w_71_76, w_71_79, w_71_80, w_71_83, w_71_84, w_71_87, w_71_90, w_71_91, w_71_92, w_71_98, w_71_99, w_71_102, w_71_103, w_71_104, w_71_105, w_71_107, w_71_108, w_71_111, w_71_112, w_71_113, w_71_114, w_71_115, w_71_116, w_71_119, w_71_120, w_71_121, w_71_124, w_71_125, w_71_128, w_71_131, w_71_132, w_71_135, w_71_136, w_71_139, w_71_140, w_71_141, w_71_144, w_71_145, cw_kindOf hw hs h8 hi, ne_thr, app1, true_and, List.cons_append, List.nil_append, c, c3, c4, if_true, if_false, show (2 : Int32) = ic 2 from rfl, ic_lt, e1, e2, ic_add1, not_true_eq_false, or_self]
theorem stp_32 {r p np n i : Nat} {a : Nat × (Nat → Int32)} (h : a.1 ≤ 32) : (stpF X V r p np n i a).1 ≤ 32 := by
  unfold stpF
  repeat' split
  all_goals (try simp only)
  all_goals omega
theorem l_value (hw : isWd w) {r np p n en : Nat} {l1 : Value} {sz : Nat} (hr : r < 12) (hp : X 1 0 = ic np) (h10 : np ≤ 10) (hv : V 7 r = ic p) (hh : p < np) (hn : V 1 0 = ic n) (h12 : n ≤ 12) (hs : X 11 5 = ic sz) (h8 : sz ≤ 800) (he : en ≤ sz) : ∀ d i a l6, (i + d = en ∨ (d = 0 ∧ en ≤ i ∧ i ≤ 800)) → a.1 ≤ 32 → (WP 71 0 22 [.ref (w + 0), l1, .int (ic r), .int (ic a.1), .int (ic en), .int (ic i), l6] [] (hW u L xs X Z w (sk V a.2)) K ↔ K [.int (if 0 < (itr (stpF X V r p np n) i d a).1 then (itr (stpF X V r p np n) i d a).2 0 else 0)] (hW u L xs X Z w (sk V (itr (stpF X V r p np n) i d a).2))) := by
  intro d
  induction d with
  | zero =>
    intro i a l6 hi ha
    have e : (en ≤ i) = True := eq_true (by omega)
    have e0 : ((0 : Nat) < 32) = True := eq_true (by decide)
    rw [w_71_22]
    simp (disch := first | assumption | omega) only [en_71, w_71_0, w_71_1, w_71_2, w_71_3, w_71_6, w_71_7, w_71_10, w_71_12, w_71_13, w_71_16, w_71_17, w_71_20, w_71_24, w_71_26, w_71_30, w_71_33, w_71_35, w_71_38, w_71_40, w_71_42, w_71_45, w_71_48, w_71_50, w_71_53, w_71_56, w_71_57, w_71_59, w_71_62, w_71_63, w_71_66, w_71_67, w_71_68, w_71_70, w_71_71, w_71_74, w_71_76, w_71_79, w_71_80, w_71_83, w_71_84, w_71_87, w_71_90, w_71_91, w_71_92, w_71_95, w_71_98, w_71_99, w_71_102, w_71_103, w_71_104, w_71_105, w_71_107, w_71_108, w_71_111, w_71_112, w_71_113, w_71_114, w_71_115, w_71_116, w_71_119, w_71_120, w_71_121, w_71_124, w_71_125, w_71_128, w_71_131, w_71_132, w_71_135, w_71_136, w_71_139, w_71_140, w_71_141, w_71_144, w_71_145, ic_le, e, if_true, itr]
    have z : ∀ v : Int32, (v ≤ 0) = (v ≤ ic 0) := fun _ => rfl
    rcases Nat.eq_zero_or_pos a.1 with q | q
    · simp only [q, show ic 0 ≤ 0 from Int32.le_refl _, if_true, Nat.lt_irrefl, if_false]
    · have e1 : (ic a.1 ≤ 0) = False := by rw [z, ic_le (by omega) (by omega)]; exact eq_false (by omega)
      have e2 : (0 < a.1) = True := eq_true q
      have e3 : (inB 0 32 = true) = True := eq_true (by decide)
      simp only [e1, e2, e3, if_true, if_false, sk_s, true_and]
      rfl
  | succ d ih =>
    intro i a l6 hi ha
    have e : (en ≤ i) = False := eq_false (by omega)
    rw [w_71_22]
    simp (disch := first | assumption | omega) only [en_71, w_71_0, w_71_1, w_71_2, w_71_3, w_71_6, w_71_7, w_71_10, w_71_12, w_71_13, w_71_16, w_71_17, w_71_20, w_71_24, w_71_26, w_71_30, w_71_33, w_71_35, w_71_38, w_71_40, w_71_42, w_71_45, w_71_48, w_71_50, w_71_53, w_71_56, w_71_57, w_71_59, w_71_62, w_71_63, w_71_66, w_71_67, w_71_68, w_71_70, w_71_71, w_71_74, w_71_76, w_71_79, w_71_80, w_71_83, w_71_84, w_71_87, w_71_90, w_71_91, w_71_92, w_71_95, w_71_98, w_71_99, w_71_102, w_71_103, w_71_104, w_71_105, w_71_107, w_71_108, w_71_111, w_71_112, w_71_113, w_71_114, w_71_115, w_71_116, w_71_119, w_71_120, w_71_121, w_71_124, w_71_125, w_71_128, w_71_131, w_71_132, w_71_135, w_71_136, w_71_139, w_71_140, w_71_141, w_71_144, w_71_145, ic_le, e, if_false]
    rw [show a = (a.1, a.2) from rfl]
    rw [s_value hw hr hp h10 hv hh hn h12 hs h8 (by omega) ha]
    unfold itr
    exact ih (i + 1) (stpF X V r p np n i a) _ (by omega) (stp_32 ha)
def valF (X V : Nat → Nat → Int32) (r p np n l : Nat) : Nat × (Nat → Int32) := itr (stpF X V r p np n) (stN X l) (enN X l - stN X l) (0, V 23)
def wthF (a : Nat × (Nat → Int32)) : Int32 := if 0 < a.1 then a.2 0 else 0
theorem c_valueOf (hw : isWd w) {r np p n ln sz l : Nat} (hr : r < 12) (hp : X 1 0 = ic np) (h10 : np ≤ 10) (hv : V 7 r = ic p) (hh : p < np) (hn : V 1 0 = ic n) (h12 : n ≤ 12) (hu : RuOK X ln sz) (hl : l < ln) : Call 71 [.ref (w + 0), .int (ic l), .int (ic r)] (hW u L xs X Z w V) K ↔ K [.int (wthF (valF X V r p np n l))] (hW u L xs X Z w (sk V (valF X V r p np n l).2)) := by
  obtain ⟨u1, u2, u3, u4, u5⟩ := hu
  have e1 : X 14 l = ic (enN X l) := (u5 l hl).1
  have e2 : (if l = 0 then 0 else X 14 (l - 1)) = ic (stN X l) := by
    unfold stN
    rcases Nat.eq_zero_or_pos l with h | h
    · simp only [h, if_true]; rfl
    · rw [if_neg (by omega), if_neg (by omega)]
      exact (u5 (l - 1) (by omega)).1
  have e3 : stN X l ≤ 800 := by
    unfold stN
    split
    · omega
    · have := (u5 (l - 1) (by omega)).2; omega
  have e4 := (u5 l hl).2
  simp (disch := first | assumption | omega) only [en_71, w_71_0, w_71_1, w_71_2, w_71_3, w_71_6, w_71_7, w_71_10, w_71_12, w_71_13, w_71_16, w_71_17, w_71_20, w_71_24, w_71_26, w_71_29, w_71_30, w_71_33, w_71_35, w_71_38, w_71_40, w_71_42, w_71_45, w_71_48, w_71_50, w_71_53, w_71_56, w_71_57, w_71_59, w_71_62, w_71_63, w_71_66, w_71_67, w_71_68, w_71_70, w_71_71, w_71_74, w_71_76, w_71_79, w_71_80, w_71_83, w_71_84, w_71_87, w_71_90, w_71_91, w_71_92, w_71_95, w_71_98, w_71_99, w_71_102, w_71_103, w_71_104, w_71_105, w_71_107, w_71_108, w_71_111, w_71_112, w_71_113, w_71_114, w_71_115, w_71_116, w_71_119, w_71_120, w_71_121, w_71_124, w_71_125, w_71_128, w_71_131, w_71_132, w_71_135, w_71_136, w_71_139, w_71_140, w_71_141, w_71_144, w_71_145, cw_endOf hw u1 u2 hl, cw_startOf hw u1 u2 hl, ne_thr, app1, true_and, e1, e2]
  have g := l_value (u := u) (L := L) (xs := xs) (X := X) (Z := Z) (K := K) hw (l1 := .int (ic l)) (en := enN X l) hr hp h10 hv hh hn h12 u3 u4 e4 (enN X l - stN X l) (stN X l) (0, V 23) poi (by omega) (Nat.zero_le _)
  unfold valF wthF
  rw [sk_v, ← ic_z] at g
  rw [g]
/-- is run r held, with the lines from k on -/
def helF (X : Nat → Nat → Int32) (r p np n : Nat) : Nat → Nat → (Nat → Nat → Int32) → Bool × (Nat → Nat → Int32)
  | _, 0, V => (false, V)
  | k, d + 1, V => if X 12 k = V 7 r ∧ V 0 5 - V 13 r < X 13 k then (if wthF (valF X V r p np n k) = 0 then helF X r p np n (k + 1) d (sk V (valF X V r p np n k).2) else (true, sk V (valF X V r p np n k).2)) else helF X r p np n (k + 1) d V
theorem l_held (hw : isWd w) {r np p n ln sz : Nat} {stood : Int32} (hr : r < 12) (hp : X 1 0 = ic np) (h10 : np ≤ 10) (hh : p < np) (h12 : n ≤ 12) (hu : RuOK X ln sz) : ∀ d k V l4, V 7 r = ic p → V 1 0 = ic n → V 0 5 - V 13 r = stood → k + d = ln → (WP 70 0 17 [.ref (w + 0), .int (ic r), .int stood, .int (ic k), l4] [] (hW u L xs X Z w V) K ↔ K [.int (b2i (helF X r p np n k d V).1)] (hW u L xs X Z w (helF X r p np n k d V).2)) := by
  have e1 : (r < 12) = True := eq_true hr
  intro d
  induction d with
  | zero =>
    intro k V l4 hv hn hs hk
    have e : (ln ≤ k) = True := eq_true (by omega)
    have u1 := hu.1
    have u2 := hu.2.1
    rw [w_70_17]
    simp (disch := first | assumption | omega) only [en_70, w_70_0, w_70_1, w_70_4, w_70_5, w_70_8, w_70_11, w_70_12, w_70_13, w_70_14, w_70_15, w_70_16, w_70_18, w_70_19, w_70_22, w_70_25, w_70_29, w_70_32, w_70_35, w_70_36, w_70_37, w_70_38, w_70_41, w_70_44, w_70_45, w_70_46, w_70_49, w_70_50, w_70_51, w_70_54, w_70_57, w_70_58, w_70_59, w_70_62, w_70_63, w_70_66, w_70_67, w_70_69, w_70_71, w_70_74, w_70_75, w_70_76, w_70_77, w_70_80, w_70_83, w_70_84, w_70_85, w_70_88, w_70_91, w_70_92, u1, ic_le, e, if_true, zb0, true_and, helF, b2i_f]
  | succ d ih =>
    intro k V l4 hv hn hs hk
    have e : (ln ≤ k) = False := eq_false (by omega)
    have u1 := hu.1
    have u2 := hu.2.1
    have e2 : (k < 24) = True := eq_true (by omega)
    have hkl : k < ln := by omega
    rw [w_70_17]
    simp (disch := first | assumption | omega) only [en_70, w_70_0, w_70_1, w_70_4, w_70_5, w_70_8, w_70_11, w_70_12, w_70_13, w_70_14, w_70_15, w_70_16, w_70_18, w_70_19, w_70_22, w_70_25, w_70_28, w_70_29, w_70_32, w_70_35, w_70_36, w_70_37, w_70_38, w_70_41, w_70_44, w_70_45, w_70_46, w_70_49, w_70_50, w_70_51, w_70_54, w_70_57, w_70_58, w_70_59, w_70_62, w_70_63, w_70_66, w_70_67, w_70_71, w_70_74, w_70_75, w_70_76, w_70_77, w_70_80, w_70_83, w_70_84, w_70_85, w_70_88, w_70_91, w_70_92, u1, ic_le, e, if_false, ic_clamp, inB_ic, e1, e2, true_and]
    have key : ∀ l4 : Value, (WP 70 0 69 [.ref (w + 0), .int (ic r), .int stood, .int (ic k), .int 0] [] (hW u L xs X Z w V) K ↔ K [.int (b2i (helF X r p np n (k + 1) d V).1)] (hW u L xs X Z w (helF X r p np n (k + 1) d V).2)) := by
      intro l4
      simp only [en_70, w_70_0, w_70_1, w_70_4, w_70_5, w_70_8, w_70_11, w_70_12, w_70_13, w_70_14, w_70_15, w_70_16, w_70_18, w_70_19, w_70_22, w_70_25, w_70_29, w_70_32, w_70_35, w_70_36, w_70_37, w_70_38, w_70_41, w_70_44, w_70_45, w_70_46, w_70_49, w_70_50, w_70_51, w_70_54, w_70_57, w_70_58, w_70_59, w_70_62, w_70_63, w_70_66, w_70_67, w_70_69, w_70_71, w_70_74, w_70_75, w_70_76, w_70_77, w_70_80, w_70_83, w_70_84, w_70_85, w_70_88, w_70_91, w_70_92, if_true, ic_add1]
      exact ih (k + 1) V _ hv hn hs (by omega)
    have key2 : WP 70 0 69 [.ref (w + 0), .int (ic r), .int stood, .int (ic k), .int 1] [] (hW u L xs X Z w V) K ↔ K [.int (b2i (if wthF (valF X V r p np n k) = 0 then helF X r p np n (k + 1) d (sk V (valF X V r p np n k).2) else (true, sk V (valF X V r p np n k).2)).1)] (hW u L xs X Z w (if wthF (valF X V r p np n k) = 0 then helF X r p np n (k + 1) d (sk V (valF X V r p np n k).2) else (true, sk V (valF X V r p np n k).2)).2) := by
      simp (disch := first | assumption | omega) only [en_70, w_70_0, w_70_1, w_70_4, w_70_5, w_70_8, w_70_11, w_70_12, w_70_13, w_70_14, w_70_15, w_70_16, w_70_18, w_70_19, w_70_22, w_70_25, w_70_29, w_70_32, w_70_35, w_70_36, w_70_37, w_70_38, w_70_41, w_70_44, w_70_45, w_70_46, w_70_49, w_70_50, w_70_51, w_70_54, w_70_57, w_70_58, w_70_59, w_70_62, w_70_63, w_70_66, w_70_67, w_70_69, w_70_71, w_70_74, w_70_75, w_70_76, w_70_77, w_70_80, w_70_83, w_70_84, w_70_85, w_70_88, w_70_91, w_70_92, show ((1 : Int32) = 0) = False by decide, if_false, c_valueOf hw hr hp h10 hv hh hn h12 hu hkl, ne_thr, app1, true_and, ic_add1, zb1]
      by_cases q : wthF (valF X V r p np n k) = 0
      · simp only [q, if_true]
        exact ih (k + 1) _ _ (by rw [sk_n (by decide)]; exact hv) (by rw [sk_n (by decide)]; exact hn) (by rw [sk_n (by decide), sk_n (by decide)]; exact hs) (by omega)
      · simp only [q, if_false, b2i_t]
    unfold helF
    rw [hs]
    by_cases q1 : X 12 k = V 7 r
    · by_cases q2 : stood < X 13 k
      · simp only [q1, q2, nle, not_true_eq_false, if_false, and_self, if_true, key2]
      · simp only [q1, q2, nle, not_true_eq_false, not_false_eq_true, if_false, and_false, if_true, key poi]
    · simp only [q1, nle, not_true_eq_false, not_false_eq_true, if_false, false_and, if_true, key poi]
theorem c_isHeld (hw : isWd w) {r np p n ln sz : Nat} (hr : r < 12) (hp : X 1 0 = ic np) (h10 : np ≤ 10) (hv : V 7 r = ic p) (hh : p < np) (hn : V 1 0 = ic n) (h12 : n ≤ 12) (hu : RuOK X ln sz) : Call 70 [.ref (w + 0), .int (ic r)] (hW u L xs X Z w V) K ↔ K [.int (b2i (helF X r p np n 0 ln V).1)] (hW u L xs X Z w (helF X r p np n 0 ln V).2) := by
  have e1 : (r < 12) = True := eq_true hr
  simp (disch := first | assumption | omega) only [en_70, w_70_0, w_70_1, w_70_4, w_70_5, w_70_8, w_70_11, w_70_12, w_70_13, w_70_14, w_70_15, w_70_16, w_70_18, w_70_19, w_70_22, w_70_25, w_70_28, w_70_29, w_70_32, w_70_35, w_70_36, w_70_37, w_70_38, w_70_41, w_70_44, w_70_45, w_70_46, w_70_49, w_70_50, w_70_51, w_70_54, w_70_57, w_70_58, w_70_59, w_70_62, w_70_63, w_70_66, w_70_67, w_70_69, w_70_71, w_70_74, w_70_75, w_70_76, w_70_77, w_70_80, w_70_83, w_70_84, w_70_85, w_70_88, w_70_91, w_70_92, ic_clamp, inB_ic, e1, true_and]
  exact l_held hw hr hp h10 hh h12 hu ln 0 V _ hv hn rfl (by omega)
end
