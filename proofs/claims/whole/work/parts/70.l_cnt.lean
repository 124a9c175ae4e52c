/-! COUNT: the class's sums -/
section
variable {u : Nat × Nat} {L : Nat} {xs : Nat → Int32} {X X' : Nat → Nat → Int32} {Z : Nat → Nat → Int64} {K : List Value → AH → Prop} {V W : Nat → Nat → Int32} {w : Nat}
def ovS (V : Nat → Nat → Int32) (k : Nat) (a : Int32) : Int32 := a + b2i (decide (V 6 k = 3))
def coS (V : Nat → Nat → Int32) (k : Nat) (a : Int32) : Int32 := a + V 11 k
def ouS (V : Nat → Nat → Int32) (k : Nat) (a : Int32) : Int32 := a + b2i (decide (V 19 k = 2))
def waS (V : Nat → Nat → Int32) (k : Nat) (a : Int32) : Int32 := a + b2i (decide (V 19 k = 0 ∧ ¬ V 0 5 < V 18 k))
theorem l_over (hw : isWd w) {n : Nat} (hn : V 1 0 = ic n) (h12 : n ≤ 12) : ∀ d k a, k + d = n → (WP 9 0 4 [.ref (w + 1), .int a, .int (ic k)] [] (hW u L xs X Z w V) K ↔ K [.int (itr (ovS V) k d a)] (hW u L xs X Z w V)) := by
  intro d
  induction d with
  | zero =>
    intro k a hk
    have e : (n ≤ k) = True := eq_true (by omega)
    rw [w_9_4]
    simp (disch := first | assumption | omega) only [en_9, w_9_0, w_9_1, w_9_2, w_9_3, w_9_5, w_9_6, w_9_9, w_9_13, w_9_14, w_9_17, w_9_18, w_9_19, w_9_20, w_9_23, w_9_24, w_9_27, w_9_28, w_9_29, w_9_30, w_9_33, w_9_36, w_9_37, hn, ic_le, e, if_true, itr]
  | succ d ih =>
    intro k a hk
    have e : (n ≤ k) = False := eq_false (by omega)
    have e2 : (k < 12) = True := eq_true (by omega)
    have q := ih (k + 1) (ovS V k a) (by omega)
    rw [w_9_4]
    unfold itr
    rw [← q]
    simp (disch := first | assumption | omega) only [en_9, w_9_0, w_9_1, w_9_2, w_9_3, w_9_5, w_9_6, w_9_9, w_9_12, w_9_13, w_9_14, w_9_17, w_9_18, w_9_19, w_9_20, w_9_23, w_9_24, w_9_27, w_9_28, w_9_29, w_9_30, w_9_33, w_9_36, w_9_37, hn, ic_le, e, if_false, inB_ic, ic_clamp, e2, true_and, ic_add1, ovS]
    by_cases c : V 6 k = 3 <;> simp [c, b2i]
theorem l_coins (hw : isWd w) {n : Nat} (hn : V 1 0 = ic n) (h12 : n ≤ 12) : ∀ d k a, k + d = n → (WP 10 0 4 [.ref (w + 1), .int a, .int (ic k)] [] (hW u L xs X Z w V) K ↔ K [.int (itr (coS V) k d a)] (hW u L xs X Z w V)) := by
  intro d
  induction d with
  | zero =>
    intro k a hk
    have e : (n ≤ k) = True := eq_true (by omega)
    rw [w_10_4]
    simp (disch := first | assumption | omega) only [en_10, w_10_0, w_10_1, w_10_2, w_10_3, w_10_5, w_10_6, w_10_9, w_10_13, w_10_14, w_10_17, w_10_18, w_10_19, w_10_20, w_10_21, w_10_24, w_10_27, w_10_28, hn, ic_le, e, if_true, itr]
  | succ d ih =>
    intro k a hk
    have e : (n ≤ k) = False := eq_false (by omega)
    have e2 : (k < 12) = True := eq_true (by omega)
    have q := ih (k + 1) (coS V k a) (by omega)
    rw [w_10_4]
    unfold itr
    rw [← q]
    simp (disch := first | assumption | omega) only [en_10, w_10_0, w_10_1, w_10_2, w_10_3, w_10_5, w_10_6, w_10_9, w_10_12, w_10_13, w_10_14, w_10_17, w_10_18, w_10_19, w_10_20, w_10_21, w_10_24, w_10_27, w_10_28, hn, ic_le, e, if_false, inB_ic, ic_clamp, e2, true_and, ic_add1, coS]
theorem l_out (hw : isWd w) {n : Nat} (hn : V 14 0 = ic n) (h80 : n ≤ 80) : ∀ d k a, k + d = n → (WP 17 0 4 [.ref (w + 14), .int a, .int (ic k)] [] (hW u L xs X Z w V) K ↔ K [.int (itr (ouS V) k d a)] (hW u L xs X Z w V)) := by
  intro d
  induction d with
  | zero =>
    intro k a hk
    have e : (n ≤ k) = True := eq_true (by omega)
    rw [w_17_4]
    simp (disch := first | assumption | omega) only [en_17, w_17_0, w_17_1, w_17_2, w_17_3, w_17_5, w_17_6, w_17_9, w_17_13, w_17_14, w_17_17, w_17_18, w_17_19, w_17_20, w_17_23, w_17_24, w_17_27, w_17_28, w_17_29, w_17_30, w_17_33, w_17_36, w_17_37, hn, ic_le, e, if_true, itr]
  | succ d ih =>
    intro k a hk
    have e : (n ≤ k) = False := eq_false (by omega)
    have e2 : (k < 80) = True := eq_true (by omega)
    have q := ih (k + 1) (ouS V k a) (by omega)
    rw [w_17_4]
    unfold itr
    rw [← q]
    simp (disch := first | assumption | omega) only [en_17, w_17_0, w_17_1, w_17_2, w_17_3, w_17_5, w_17_6, w_17_9, w_17_12, w_17_13, w_17_14, w_17_17, w_17_18, w_17_19, w_17_20, w_17_23, w_17_24, w_17_27, w_17_28, w_17_29, w_17_30, w_17_33, w_17_36, w_17_37, hn, ic_le, e, if_false, inB_ic, ic_clamp, e2, true_and, ic_add1, ouS]
    by_cases c : V 19 k = 2 <;> simp [c, b2i]
theorem l_wait (hw : isWd w) {n : Nat} (hn : V 14 0 = ic n) (h80 : n ≤ 80) : ∀ d k a, k + d = n → (WP 18 0 4 [.ref (w + 14), .int (V 0 5), .int a, .int (ic k)] [] (hW u L xs X Z w V) K ↔ K [.int (itr (waS V) k d a)] (hW u L xs X Z w V)) := by
  intro d
  induction d with
  | zero =>
    intro k a hk
    have e : (n ≤ k) = True := eq_true (by omega)
    rw [w_18_4]
    simp (disch := first | assumption | omega) only [en_18, w_18_0, w_18_1, w_18_2, w_18_3, w_18_5, w_18_6, w_18_9, w_18_13, w_18_14, w_18_17, w_18_18, w_18_19, w_18_22, w_18_23, w_18_26, w_18_27, w_18_28, w_18_29, w_18_32, w_18_33, w_18_36, w_18_37, w_18_38, w_18_39, w_18_42, w_18_45, w_18_46, hn, ic_le, e, if_true, itr]
  | succ d ih =>
    intro k a hk
    have e : (n ≤ k) = False := eq_false (by omega)
    have e2 : (k < 80) = True := eq_true (by omega)
    have q := ih (k + 1) (waS V k a) (by omega)
    rw [w_18_4]
    unfold itr
    rw [← q]
    simp (disch := first | assumption | omega) only [en_18, w_18_0, w_18_1, w_18_2, w_18_3, w_18_5, w_18_6, w_18_9, w_18_12, w_18_13, w_18_14, w_18_17, w_18_18, w_18_19, w_18_22, w_18_23, w_18_26, w_18_27, w_18_28, w_18_29, w_18_32, w_18_33, w_18_36, w_18_37, w_18_38, w_18_39, w_18_42, w_18_45, w_18_46, hn, ic_le, e, if_false, inB_ic, ic_clamp, e2, true_and, ic_add1, waS]
    by_cases c : V 19 k = 0 <;> by_cases c2 : V 0 5 < V 18 k <;> simp [c, c2, b2i]
end
