/-! TEXT: the class cuts the tape into tokens -/
section
variable {u : Nat × Nat} {L : Nat} {xs : Nat → Int32} {X X' : Nat → Nat → Int32} {Z : Nat → Nat → Int64} {K : List Value → AH → Prop} {V W : Nat → Nat → Int32} {T : Nat → Int32} {n : Nat}
def enF (T : Nat → Int32) (lo hi : Int32) : Nat → Nat → Nat
  | 0, k => k
  | d + 1, k => if ¬ T k < lo ∧ ¬ hi < T k then enF T lo hi d (k + 1) else k
theorem enF_b {lo hi : Int32} : ∀ d k, k ≤ enF T lo hi d k ∧ enF T lo hi d k ≤ k + d := by
  intro d
  induction d with
  | zero => intro k; exact ⟨Nat.le_refl _, Nat.le_refl _⟩
  | succ d ih =>
    intro k
    unfold enF
    have := ih (k + 1)
    split <;> omega
def digF (T : Nat → Int32) : Nat → Nat → Int32 → Int32
  | 0, _, v => v
  | d + 1, k, v => digF T d (k + 1) (v * 10 + (T k - 48))
def hwF (T : Nat → Int32) (s e sl : Nat) : Nat → Nat → Bool
  | 0, _ => true
  | d + 1, j => if wdC (sl + j) = (if s + j < e then T (s + j) else 32) then hwF T s e sl d (j + 1) else false
def fdF (p : Nat → Bool) : Nat → Nat → Int32
  | 0, _ => 1
  | d + 1, w => if p w = true then ic (129 + w) else fdF p d (w + 1)
def wkF (T : Nat → Int32) (s e : Nat) : Int32 := if 8 < e - s then 1 else fdF (fun w => hwF T s e (8 * w) 8 0) 11 0
theorem l_end {lo hi : Int32} {l1 : Value} (hn : n ≤ 800) (h9 : X 9 1 = ic n) (h10 : X 10 = T) : ∀ d k, k + d = n → (WP 55 0 3 [.ref 9, l1, .int lo, .int hi, .int (ic k)] [] (hX u L xs X Z) K ↔ K [.int (ic (enF T lo hi d k))] (hX u L xs X Z)) := by
  intro d
  induction d with
  | zero =>
    intro k hk
    have e : k = n := by omega
    subst e
    have e1 : (ic k ≤ ic k) = True := by rw [ic_le (by omega) (by omega)]; simp
    simp only [en_55, w_55_0, w_55_1, w_55_5, w_55_6, w_55_9, w_55_13, w_55_16, w_55_18, w_55_19, w_55_20, w_55_23, w_55_24, w_55_27, w_55_29, w_55_30, w_55_31, w_55_34, w_55_37, w_55_40, w_55_42, w_55_3, h9, e1, if_true]
    rfl
  | succ d ih =>
    intro k hk
    have e1 : (ic n ≤ ic k) = False := by rw [ic_le (by omega) (by omega)]; exact eq_false (by omega)
    have e8 : (k < 800) = True := eq_true (by omega)
    rw [w_55_3]
    simp (disch := first | assumption | omega) only [en_55, w_55_0, w_55_1, w_55_5, w_55_6, w_55_9, w_55_12, w_55_13, w_55_16, w_55_18, w_55_19, w_55_20, w_55_23, w_55_24, w_55_27, w_55_29, w_55_30, w_55_31, w_55_34, w_55_37, w_55_42, h9, h10, e1, if_false, inB_ic, ic_clamp, e8, true_and]
    unfold enF
    by_cases c1 : T k < lo
    · rw [if_pos c1, if_neg (fun z => z.1 c1), w_55_40, w_55_42]
    · rw [if_neg c1]
      by_cases c2 : hi < T k
      · rw [if_pos c2, if_neg (fun z => z.2 c2), w_55_40, w_55_42]
      · rw [if_neg c2, if_pos ⟨c1, c2⟩, ic_add1, ih (k + 1) (by omega)]
theorem c_eos {lo hi : Int32} {k : Nat} (hn : n ≤ 800) (h9 : X 9 1 = ic n) (h10 : X 10 = T) (hk : k ≤ n) : Call 55 [.ref 9, .int (ic k), .int lo, .int hi] (hX u L xs X Z) K ↔ K [.int (ic (enF T lo hi (n - k) k))] (hX u L xs X Z) := by
  rw [en_55, w_55_0, w_55_1]
  exact l_end hn h9 h10 _ _ (by omega)
theorem l_num {e : Nat} {l1 : Value} (hn : n ≤ 800) (h9 : X 9 1 = ic n) (h10 : X 10 = T) (he : e ≤ n) : ∀ d k v, k + d = e → (WP 56 0 5 [.ref 9, l1, .int (ic e), .int v, .int (ic k)] [] (hX u L xs X Z) K ↔ K [.int (digF T d k v)] (hX u L xs X Z)) := by
  intro d
  induction d with
  | zero =>
    intro k v hk
    have e : k = e := by omega
    subst e
    have e1 : (ic k ≤ ic k) = True := by rw [ic_le (by omega) (by omega)]; simp
    simp only [en_56, w_56_0, w_56_1, w_56_2, w_56_3, w_56_7, w_56_8, w_56_13, w_56_14, w_56_17, w_56_20, w_56_21, w_56_23, w_56_24, w_56_25, w_56_28, w_56_30, w_56_31, w_56_33, w_56_34, w_56_35, w_56_36, w_56_39, w_56_42, w_56_43, w_56_5, e1, if_true]
    rfl
  | succ d ih =>
    intro k v hk
    have e1 : (ic e ≤ ic k) = False := by rw [ic_le (by omega) (by omega)]; exact eq_false (by omega)
    have e2 : (ic n ≤ ic k) = False := by rw [ic_le (by omega) (by omega)]; exact eq_false (by omega)
    have e8 : (k < 800) = True := eq_true (by omega)
    rw [w_56_5]
    simp (disch := first | assumption | omega) only [en_56, w_56_0, w_56_1, w_56_2, w_56_3, w_56_7, w_56_8, w_56_11, w_56_13, w_56_14, w_56_17, w_56_20, w_56_21, w_56_23, w_56_24, w_56_25, w_56_28, w_56_30, w_56_31, w_56_33, w_56_34, w_56_35, w_56_36, w_56_39, w_56_43, h9, h10, e1, e2, if_false, inB_ic, ic_clamp, e8, true_and, ic_add1]
    exact ih (k + 1) _ (by omega)
theorem c_num {s e : Nat} (hn : n ≤ 800) (h9 : X 9 1 = ic n) (h10 : X 10 = T) (he : e ≤ n) (hs : s ≤ e) : Call 56 [.ref 9, .int (ic s), .int (ic e)] (hX u L xs X Z) K ↔ K [.int (digF T (e - s) s 0)] (hX u L xs X Z) := by
  rw [en_56, w_56_0, w_56_1, w_56_2, w_56_3]
  exact l_num hn h9 h10 he _ _ _ (by omega)
theorem l_has {s e sl : Nat} (hn : n ≤ 800) (h10 : X 10 = T) (he : e ≤ n) (hs : s ≤ e) (hsl : sl + 8 ≤ 88) : ∀ d j l5, j + d = 8 → (WP 57 0 3 [.ref 9, .int (ic s), .int (ic e), .int (ic sl), .int (ic j), l5] [] (hX u L xs X Z) K ↔ K [.int (b2i (hwF T s e sl d j))] (hX u L xs X Z)) := by
  intro d
  induction d with
  | zero =>
    intro j l5 hj
    have e : j = 8 := by omega
    subst e
    simp only [en_57, w_57_0, w_57_1, w_57_5, w_57_7, w_57_11, w_57_13, w_57_14, w_57_15, w_57_18, w_57_19, w_57_22, w_57_23, w_57_25, w_57_26, w_57_27, w_57_30, w_57_32, w_57_34, w_57_36, w_57_37, w_57_39, w_57_40, w_57_43, w_57_45, w_57_48, w_57_49, w_57_50, w_57_53, w_57_56, w_57_57, w_57_3, show ((8 : Int32) ≤ ic 8) = True by decide, if_true, zb1, true_and]
    rfl
  | succ d ih =>
    intro j l5 hj
    have e1 : (8 ≤ ic j) = False := by rw [show (8 : Int32) = ic 8 from rfl, ic_le (by omega) (by omega)]; exact eq_false (by omega)
    have k : ∀ l5 : Value, WP 57 0 32 [.ref 9, .int (ic s), .int (ic e), .int (ic sl), .int (ic j), l5] [.int (if s + j < e then T (s + j) else 32)] (hX u L xs X Z) K ↔ K [.int (b2i (hwF T s e sl (d + 1) j))] (hX u L xs X Z) := by
      intro l5
      simp (disch := first | assumption | omega) only [en_57, w_57_0, w_57_1, w_57_5, w_57_7, w_57_10, w_57_11, w_57_13, w_57_14, w_57_15, w_57_18, w_57_19, w_57_22, w_57_23, w_57_25, w_57_26, w_57_27, w_57_30, w_57_32, w_57_34, w_57_36, w_57_37, w_57_39, w_57_40, w_57_43, w_57_45, w_57_48, w_57_49, w_57_53, w_57_56, w_57_57, ic_add, c_charAt (show sl + j < 88 by omega), ne_thr, app1, true_and, zb0]
      unfold hwF
      by_cases c : wdC (sl + j) = (if s + j < e then T (s + j) else 32)
      · rw [if_pos c, if_pos c, w_57_50, w_57_53, ic_add1, ih (j + 1) _ (by omega)]
      · rw [if_neg c, if_neg c]; rfl
    rw [w_57_3]
    simp (disch := first | assumption | omega) only [en_57, w_57_0, w_57_1, w_57_5, w_57_7, w_57_10, w_57_11, w_57_13, w_57_14, w_57_15, w_57_19, w_57_22, w_57_23, w_57_25, w_57_26, w_57_27, w_57_34, w_57_36, w_57_37, w_57_39, w_57_40, w_57_43, w_57_45, w_57_48, w_57_49, w_57_50, w_57_53, w_57_56, w_57_57, e1, if_false, ic_add, ic_le]
    by_cases c : s + j < e
    · have e8 : (s + j < 800) = True := eq_true (by omega)
      have k' := k l5
      rw [if_pos c] at k'
      rw [if_neg (by omega)]
      simp (disch := first | assumption | omega) only [en_57, w_57_0, w_57_1, w_57_5, w_57_7, w_57_10, w_57_11, w_57_13, w_57_14, w_57_15, w_57_18, w_57_19, w_57_22, w_57_23, w_57_25, w_57_26, w_57_27, w_57_30, w_57_34, w_57_36, w_57_37, w_57_39, w_57_40, w_57_43, w_57_45, w_57_48, w_57_49, w_57_50, w_57_53, w_57_56, w_57_57, ic_add, inB_ic, ic_clamp, e8, true_and, h10]
      exact k'
    · have k' := k l5
      rw [if_neg c] at k'
      rw [if_pos (by omega), w_57_30]
      exact k'
theorem c_has {s e sl : Nat} (hn : n ≤ 800) (h10 : X 10 = T) (he : e ≤ n) (hs : s ≤ e) (hsl : sl + 8 ≤ 88) : Call 57 [.ref 9, .int (ic s), .int (ic e), .int (ic sl)] (hX u L xs X Z) K ↔ K [.int (b2i (hwF T s e sl 8 0))] (hX u L xs X Z) := by
  rw [en_57, w_57_0, w_57_1]
  exact l_has hn h10 he hs hsl 8 0 _ rfl
theorem l_kind {s e : Nat} (hn : n ≤ 800) (h10 : X 10 = T) (he : e ≤ n) (hs : s ≤ e) : ∀ d w, w + d = 11 → (WP 23 0 14 [.ref 9, .int (ic s), .int (ic e), .int (ic (129 + w))] [] (hX u L xs X Z) K ↔ K [.int (fdF (fun w => hwF T s e (8 * w) 8 0) d w)] (hX u L xs X Z)) := by
  intro d
  induction d with
  | zero =>
    intro w hw
    have e : w = 11 := by omega
    subst e
    simp only [en_23, w_23_0, w_23_1, w_23_2, w_23_3, w_23_5, w_23_8, w_23_9, w_23_10, w_23_13, w_23_15, w_23_18, w_23_22, w_23_23, w_23_24, w_23_25, w_23_28, w_23_29, w_23_31, w_23_32, w_23_35, w_23_38, w_23_39, w_23_40, w_23_43, w_23_46, w_23_47, w_23_14, show ((139 : Int32) < ic (129 + 11)) = True by decide, if_true]
    rfl
  | succ d ih =>
    intro w hw
    have e1 : (139 < ic (129 + w)) = False := by rw [show (139 : Int32) = ic 139 from rfl, ic_lt (by omega) (by omega)]; exact eq_false (by omega)
    have e2 : (ic (129 + w) - 129) * 8 = ic (8 * w) := by
      have : ∀ w : Fin 12, (ic (129 + w.1) - 129) * 8 = ic (8 * w.1) := by decide +kernel
      exact this ⟨w, by omega⟩
    rw [w_23_14]
    simp only [en_23, w_23_0, w_23_1, w_23_2, w_23_3, w_23_5, w_23_8, w_23_9, w_23_10, w_23_13, w_23_15, w_23_18, w_23_21, w_23_22, w_23_23, w_23_24, w_23_25, w_23_28, w_23_29, w_23_31, w_23_32, w_23_35, w_23_38, w_23_39, w_23_43, w_23_46, w_23_47, e1, if_false, e2, c_has (sl := 8 * w) hn h10 he hs (by omega), ne_thr, app1, true_and, b2i_z]
    unfold fdF
    by_cases c : hwF T s e (8 * w) 8 0 = true
    · rw [if_neg (by simp [c]), if_pos c]
    · rw [if_pos (by simpa using c), if_neg c, w_23_40, w_23_43, ic_add1]
      exact ih (w + 1) (by omega)
theorem ic_subN {a b : Nat} (h : b ≤ a) : ic a - ic b = ic (a - b) := by
  have : ic a = ic (a - b) + ic b := by rw [ic_add]; congr 1; omega
  rw [this]
  exact Int32.add_sub_cancel _ _
theorem c_kind {s e : Nat} (hn : n ≤ 800) (h10 : X 10 = T) (he : e ≤ n) (hs : s ≤ e) : Call 23 [.ref 9, .int (ic s), .int (ic e)] (hX u L xs X Z) K ↔ K [.int (wkF T s e)] (hX u L xs X Z) := by
  unfold wkF
  rw [en_23, w_23_0, w_23_1, w_23_2, w_23_3, w_23_5, ic_subN hs]
  have e8 : (ic (e - s) ≤ 8) = (e - s ≤ 8) := by rw [show (8 : Int32) = ic 8 from rfl, ic_le (by omega) (by omega)]
  simp only [e8]
  by_cases c : 8 < e - s
  · rw [if_neg (by omega), if_pos c, w_23_8, w_23_9]
  · rw [if_pos (by omega), if_neg c, w_23_10, w_23_13]
    exact l_kind hn h10 he hs 11 0 rfl
def adT (X : Nat → Nat → Int32) (t : Nat) (k v s : Int32) : Nat → Nat → Int32 := sv (sv (sv (sv X 22 t k) 23 t v) 24 t s) 16 4 (ic (t + 1))
theorem c_addT {t : Nat} {k v s : Int32} (ht : t < 800) (h4 : X 16 4 = ic t) : Call 24 [.ref 16, .int k, .int v, .int s] (hX u L xs X Z) K ↔ K [] (hX u L xs (adT X t k v s) Z) := by
  have e8 : (t < 800) = True := eq_true ht
  have e0 : (800 ≤ ic t) = False := by rw [show (800 : Int32) = ic 800 from rfl, ic_le (by omega) (by omega)]; exact eq_false (by omega)
  have h4a : sv X 22 t k 16 4 = ic t := by rw [sv_a (by decide)]; exact h4
  have h4b : sv (sv X 22 t k) 23 t v 16 4 = ic t := by rw [sv_a (by decide)]; exact h4a
  have h4c : sv (sv (sv X 22 t k) 23 t v) 24 t s 16 4 = ic t := by rw [sv_a (by decide)]; exact h4b
  unfold adT
  simp (disch := first | assumption | omega) only [en_24, w_24_0, w_24_1, w_24_4, w_24_7, w_24_10, w_24_11, w_24_14, w_24_15, w_24_18, w_24_19, w_24_20, w_24_21, w_24_24, w_24_25, w_24_28, w_24_29, w_24_30, w_24_31, w_24_34, w_24_35, w_24_38, w_24_39, w_24_40, w_24_41, w_24_42, w_24_45, w_24_46, w_24_47, w_24_50, h4, e0, if_false, inB_ic, ic_clamp, e8, true_and, sv_d, h4a, h4b, h4c, ic_add1]
end
