/-! THE ROAD -/
section
variable {u : Nat × Nat} {L : Nat} {xs : Nat → Int32} {X : Nat → Nat → Int32} {Z : Nat → Nat → Int64} {K : List Value → AH → Prop}
theorem c_hasPlace {p : Int32} : Call 34 [.ref 1, .int p] (hX u L xs X Z) K ↔ K [.int (b2i (decide (¬ p < 0 ∧ ¬ X 1 0 ≤ p)))] (hX u L xs X Z) := by
  simp only [en_34, w_34_0, w_34_1, w_34_4, w_34_5, w_34_6, w_34_9, w_34_12, w_34_13, w_34_16, w_34_17, zb0, zb1, true_and]
  repeat' split
  all_goals simp_all only [b2i, nle, Bool.true_eq_false, reduceCtorEq, Classical.not_not, eq_self, Bool.decide_eq_true, imp_self, Bool.not_eq_true, decide_not, decide_true, decide_false, not_true_eq_false, not_false_eq_true, or_true, true_or, or_false, false_or, and_true, true_and, false_and, and_false, if_true, if_false, Bool.false_eq_true, reduceIte, Bool.or_true, Bool.true_or, Bool.or_false, Bool.false_or, Bool.and_true, Bool.true_and, Bool.and_false, Bool.false_and, Bool.not_true, Bool.not_false, ne_eq, iff_self, or_self, and_self]
theorem c_hasStretch {p : Int32} : Call 35 [.ref 1, .int p] (hX u L xs X Z) K ↔ K [.int (b2i (decide (¬ p < 0 ∧ ¬ X 1 0 - 1 ≤ p)))] (hX u L xs X Z) := by
  simp only [en_35, w_35_0, w_35_1, w_35_4, w_35_5, w_35_6, w_35_9, w_35_10, w_35_11, w_35_14, w_35_15, w_35_18, w_35_19, zb0, zb1, true_and]
  repeat' split
  all_goals simp_all only [b2i, nle, Bool.true_eq_false, reduceCtorEq, Classical.not_not, eq_self, Bool.decide_eq_true, imp_self, Bool.not_eq_true, decide_not, decide_true, decide_false, not_true_eq_false, not_false_eq_true, or_true, true_or, or_false, false_or, and_true, true_and, false_and, and_false, if_true, if_false, Bool.false_eq_true, reduceIte, Bool.or_true, Bool.true_or, Bool.or_false, Bool.false_or, Bool.and_true, Bool.true_and, Bool.and_false, Bool.false_and, Bool.not_true, Bool.not_false, ne_eq, iff_self, or_self, and_self]
def pasB (X : Nat → Nat → Int32) (p : Int32) : Bool := decide (p ≤ 0 ∨ X 1 0 - 1 ≤ p ∨ ¬ X 3 p.toNatClampNeg = 0)
theorem c_isPassing {p : Int32} (h : p ≤ 0 ∨ X 1 0 - 1 ≤ p ∨ inB p 10 = true) : Call 36 [.ref 1, .int p] (hX u L xs X Z) K ↔ K [.int (b2i (pasB X p))] (hX u L xs X Z) := by
  simp only [en_36, w_36_0, w_36_1, w_36_4, w_36_5, w_36_6, w_36_9, w_36_10, w_36_11, w_36_14, w_36_15, w_36_18, w_36_19, w_36_20, w_36_23, w_36_24, w_36_27, w_36_28, zb0, zb1, true_and]
  repeat' split
  all_goals simp_all only [b2i, nle, Bool.true_eq_false, reduceCtorEq, Classical.not_not, eq_self, Bool.decide_eq_true, imp_self, Bool.not_eq_true, decide_not, decide_true, decide_false, not_true_eq_false, not_false_eq_true, or_true, true_or, or_false, false_or, and_true, true_and, false_and, and_false, if_true, if_false, Bool.false_eq_true, reduceIte, Bool.or_true, Bool.true_or, Bool.or_false, Bool.false_or, Bool.and_true, Bool.true_and, Bool.and_false, Bool.false_and, Bool.not_true, Bool.not_false, ne_eq, iff_self, or_self, and_self, pasB]
def shuB (X : Nat → Nat → Int32) (s m : Int32) (k : Nat) : Bool := decide (X 4 k = s ∧ X 5 k ≤ m ∧ m ≤ X 6 k)
theorem l_isShut {s m : Int32} {n : Nat} (hn : X 1 3 = ic n) (h20 : n ≤ 20) : ∀ d k, k + d = n → (WP 41 0 2 [.ref 1, .int s, .int m, .int (ic k)] [] (hX u L xs X Z) K ↔ K [.int (b2i (exB (shuB X s m) k d))] (hX u L xs X Z)) := by
  intro d
  induction d with
  | zero =>
    intro k hk
    have e : (n ≤ k) = True := by simp; omega
    rw [w_41_2]
    simp (disch := omega) only [en_41, w_41_0, w_41_1, w_41_3, w_41_4, w_41_7, w_41_10, w_41_11, w_41_14, w_41_15, w_41_16, w_41_17, w_41_20, w_41_21, w_41_24, w_41_25, w_41_26, w_41_27, w_41_30, w_41_31, w_41_32, w_41_35, w_41_36, w_41_37, w_41_40, w_41_41, w_41_42, w_41_45, w_41_48, w_41_49, zb0, zb1, true_and, hn, ic_le, e, if_true, exB, b2i_f]
  | succ d ih =>
    intro k hk
    have ih' := ih (k + 1) (by omega)
    have e : (n ≤ k) = False := by simp; omega
    have e2 : (k < 20) = True := by simp; omega
    rw [w_41_2]
    simp (disch := omega) only [en_41, w_41_0, w_41_1, w_41_3, w_41_4, w_41_7, w_41_10, w_41_11, w_41_14, w_41_15, w_41_16, w_41_17, w_41_20, w_41_21, w_41_24, w_41_25, w_41_26, w_41_27, w_41_30, w_41_31, w_41_32, w_41_35, w_41_36, w_41_37, w_41_40, w_41_41, w_41_42, w_41_45, w_41_48, w_41_49, zb0, zb1, true_and, hn, ic_le, e, e2, if_false, ic_clamp, inB_ic, exB, ic_add1, ih', shuB]
    repeat' split
    all_goals simp_all only [b2i, nle, Bool.true_eq_false, reduceCtorEq, Classical.not_not, eq_self, Bool.decide_eq_true, imp_self, Bool.not_eq_true, decide_not, decide_true, decide_false, not_true_eq_false, not_false_eq_true, or_true, true_or, or_false, false_or, and_true, true_and, false_and, and_false, if_true, if_false, Bool.false_eq_true, reduceIte, Bool.or_true, Bool.true_or, Bool.or_false, Bool.false_or, Bool.and_true, Bool.true_and, Bool.and_false, Bool.false_and, Bool.not_true, Bool.not_false, ne_eq, iff_self, or_self, and_self]
theorem c_isShut {s m : Int32} {n : Nat} (hn : X 1 3 = ic n) (h20 : n ≤ 20) : Call 41 [.ref 1, .int s, .int m] (hX u L xs X Z) K ↔ K [.int (b2i (exB (shuB X s m) 0 n))] (hX u L xs X Z) := by
  rw [en_41, w_41_0, w_41_1, ic_z, l_isShut hn h20 n 0 (by omega)]
def dnF (P : Nat → Bool) : Nat → Nat
  | 0 => 0
  | n + 1 => if P (n + 1) = true then n + 1 else dnF P n
def upF (P : Nat → Bool) : Nat → Nat → Nat
  | 0, k => k
  | d + 1, k => if P k = true then k else upF P d (k + 1)
theorem ic_subn (n : Nat) : ic (n + 1) + -1 = ic n := by
  rw [← ic_add1, Int32.add_assoc]
  exact Int32.add_zero _
theorem l_lower {l1 : Value} : ∀ n, n < 10 → (WP 42 0 2 [.ref 1, l1, .int (ic n)] [] (hX u L xs X Z) K ↔ K [.int (ic (dnF (fun j => pasB X (ic j)) n))] (hX u L xs X Z)) := by
  intro n
  induction n with
  | zero =>
    intro _
    rw [w_42_2]
    simp (disch := omega) only [en_42, w_42_0, w_42_1, w_42_3, w_42_7, w_42_8, w_42_11, w_42_14, w_42_17, w_42_20, w_42_21, ic_z, ic_le, Nat.le_refl, if_true, dnF]
  | succ n ih =>
    intro h
    have e : (n + 1 ≤ 0) = False := eq_false (by omega)
    have g : ic (n + 1) ≤ 0 ∨ X 1 0 - 1 ≤ ic (n + 1) ∨ inB (ic (n + 1)) 10 = true := Or.inr (Or.inr (by rw [inB_ic (by omega)]; omega))
    rw [w_42_2]
    simp (disch := omega) only [en_42, w_42_0, w_42_1, w_42_3, w_42_6, w_42_7, w_42_8, w_42_11, w_42_14, w_42_17, w_42_20, w_42_21, ic_z, ic_le, e, if_false, c_isPassing g, ne_thr, app1, true_and, ic_subn, ih (by omega), dnF]
    simp only [← ic_z, b2i_z]
    by_cases q : pasB X (ic (n + 1)) = true <;> simp [q]
theorem l_upper {l1 : Value} {np : Nat} (hp : X 1 0 = ic np) (h10 : np ≤ 10) : ∀ d k, k + d = np → (WP 43 0 4 [.ref 1, l1, .int (ic k)] [] (hX u L xs X Z) K ↔ K [.int (ic (upF (fun j => pasB X (ic j)) d k))] (hX u L xs X Z)) := by
  intro d
  induction d with
  | zero =>
    intro k hk
    have e : (np ≤ k) = True := eq_true (by omega)
    rw [w_43_4]
    simp (disch := omega) only [en_43, w_43_0, w_43_1, w_43_2, w_43_3, w_43_5, w_43_6, w_43_9, w_43_13, w_43_14, w_43_17, w_43_20, w_43_23, w_43_26, w_43_27, hp, ic_le, e, if_true, upF]
  | succ d ih =>
    intro k hk
    have e : (np ≤ k) = False := eq_false (by omega)
    have g : ic k ≤ 0 ∨ X 1 0 - 1 ≤ ic k ∨ inB (ic k) 10 = true := Or.inr (Or.inr (by rw [inB_ic (by omega)]; omega))
    rw [w_43_4]
    simp (disch := omega) only [en_43, w_43_0, w_43_1, w_43_2, w_43_3, w_43_5, w_43_6, w_43_9, w_43_12, w_43_13, w_43_14, w_43_17, w_43_20, w_43_23, w_43_26, w_43_27, hp, ic_le, e, if_false, c_isPassing g, ne_thr, app1, true_and, ic_add1, ih (k + 1) (by omega), upF]
    simp only [b2i_z]
    by_cases q : pasB X (ic k) = true <;> simp [q]
theorem c_lower {n : Nat} (h : n < 10) : Call 42 [.ref 1, .int (ic n)] (hX u L xs X Z) K ↔ K [.int (ic (dnF (fun j => pasB X (ic j)) n))] (hX u L xs X Z) := by
  rw [en_42, w_42_0, w_42_1, l_lower n h]
theorem c_upper {np n : Nat} (hp : X 1 0 = ic np) (h10 : np ≤ 10) (h : n + 1 ≤ np) : Call 43 [.ref 1, .int (ic n)] (hX u L xs X Z) K ↔ K [.int (ic (upF (fun j => pasB X (ic j)) (np - (n + 1)) (n + 1)))] (hX u L xs X Z) := by
  rw [en_43, w_43_0, w_43_1, w_43_2, w_43_3, ic_add1, l_upper hp h10 (np - (n + 1)) (n + 1) (by omega)]
def traF (X : Nat → Nat → Int32) (k p now : Int32) : Int32 := if k < 0 ∨ 8 ≤ k ∨ ¬ X 7 k.toNatClampNeg = p then 999 else if now < X 8 k.toNatClampNeg then X 8 k.toNatClampNeg - now else 0
theorem c_minutesUntilTrain {k p now : Int32} : Call 39 [.ref 1, .int k, .int p, .int now] (hX u L xs X Z) K ↔ K [.int (traF X k p now)] (hX u L xs X Z) := by
  by_cases h1 : k < 0
  · simp only [en_39, w_39_0, w_39_1, w_39_4, w_39_5, w_39_7, w_39_10, w_39_11, w_39_14, w_39_15, w_39_16, w_39_17, w_39_20, w_39_23, w_39_24, w_39_25, w_39_28, w_39_29, w_39_30, w_39_31, w_39_34, w_39_35, w_39_38, w_39_39, w_39_40, w_39_41, w_39_42, w_39_45, w_39_46, h1, if_true, traF, true_or]
  · by_cases h2 : 8 ≤ k
    · simp only [en_39, w_39_0, w_39_1, w_39_4, w_39_5, w_39_7, w_39_10, w_39_11, w_39_14, w_39_15, w_39_16, w_39_17, w_39_20, w_39_23, w_39_24, w_39_25, w_39_28, w_39_29, w_39_30, w_39_31, w_39_34, w_39_35, w_39_38, w_39_39, w_39_40, w_39_41, w_39_42, w_39_45, w_39_46, h1, h2, if_true, if_false, traF, true_or, or_true]
    · have hb : (inB k 8 = true) = True := eq_true (by
        obtain ⟨q, q2⟩ := ic_of h1
        rw [q, show (8 : Int32) = ic 8 from rfl, ic_le (by omega) q2] at h2
        rw [q, inB_ic q2]
        omega)
      simp only [en_39, w_39_0, w_39_1, w_39_4, w_39_5, w_39_7, w_39_10, w_39_11, w_39_14, w_39_15, w_39_16, w_39_17, w_39_20, w_39_23, w_39_24, w_39_25, w_39_28, w_39_29, w_39_30, w_39_31, w_39_34, w_39_35, w_39_38, w_39_39, w_39_40, w_39_41, w_39_42, w_39_45, w_39_46, h1, h2, if_true, if_false, traF, true_or, or_true, false_or, hb, true_and]
      by_cases h3 : X 7 k.toNatClampNeg = p
      · simp only [h3, if_true, not_true_eq_false, if_false, nle]
        by_cases h4 : now < X 8 k.toNatClampNeg <;> simp [h4]
      · simp only [h3, if_true, not_false_eq_true, if_false]
variable {w : Nat} {V : Nat → Nat → Int32}
theorem pas_w (hw : isWd w) : pasB (pw X w V) = pasB X := by
  funext p
  unfold pasB
  simp (disch := omega) only [pw_lo hw]
theorem shu_w (hw : isWd w) {s m : Int32} : shuB (pw X w V) s m = shuB X s m := by
  funext k
  unfold shuB
  simp (disch := omega) only [pw_lo hw]
theorem cw_hasStretch (hw : isWd w) {p : Int32} : Call 35 [.ref 1, .int p] (hW u L xs X Z w V) K ↔ K [.int (b2i (decide (¬ p < 0 ∧ ¬ X 1 0 - 1 ≤ p)))] (hW u L xs X Z w V) := by
  unfold hW
  rw [c_hasStretch, pw_lo hw (by decide)]
theorem cw_isShut (hw : isWd w) {s m : Int32} {n : Nat} (hn : X 1 3 = ic n) (h20 : n ≤ 20) : Call 41 [.ref 1, .int s, .int m] (hW u L xs X Z w V) K ↔ K [.int (b2i (exB (shuB X s m) 0 n))] (hW u L xs X Z w V) := by
  unfold hW
  rw [c_isShut (n := n) (by rw [pw_lo hw (by decide)]; exact hn) h20, shu_w hw]
theorem cw_isPassing (hw : isWd w) {p : Int32} (h : p ≤ 0 ∨ X 1 0 - 1 ≤ p ∨ inB p 10 = true) : Call 36 [.ref 1, .int p] (hW u L xs X Z w V) K ↔ K [.int (b2i (pasB X p))] (hW u L xs X Z w V) := by
  unfold hW
  rw [c_isPassing (by rw [pw_lo hw (by decide)]; exact h), pas_w hw]
theorem cw_lower (hw : isWd w) {n : Nat} (h : n < 10) : Call 42 [.ref 1, .int (ic n)] (hW u L xs X Z w V) K ↔ K [.int (ic (dnF (fun j => pasB X (ic j)) n))] (hW u L xs X Z w V) := by
  unfold hW
  rw [c_lower h, pas_w hw]
theorem cw_upper (hw : isWd w) {np n : Nat} (hp : X 1 0 = ic np) (h10 : np ≤ 10) (h : n + 1 ≤ np) : Call 43 [.ref 1, .int (ic n)] (hW u L xs X Z w V) K ↔ K [.int (ic (upF (fun j => pasB X (ic j)) (np - (n + 1)) (n + 1)))] (hW u L xs X Z w V) := by
  unfold hW
  rw [c_upper (by rw [pw_lo hw (by decide)]; exact hp) h10 h, pas_w hw]
theorem cw_minutesUntilTrain (hw : isWd w) {k p now : Int32} : Call 39 [.ref 1, .int k, .int p, .int now] (hW u L xs X Z w V) K ↔ K [.int (traF X k p now)] (hW u L xs X Z w V) := by
  unfold hW
  rw [c_minutesUntilTrain]
  unfold traF
  simp (disch := omega) only [pw_lo hw]
end
