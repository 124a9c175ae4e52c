/-! THE MODEL'S WORLD: what its methods answer -/
section
variable {u : Nat × Nat} {L : Nat} {xs : Nat → Int32} {X : Nat → Nat → Int32} {Z : Nat → Nat → Int64} {K : List Value → AH → Prop} {V : Nat → Nat → Int32}
theorem m_passes {q : Nat} (hr : RR X) (hx : RdOK X) (hq : q < npN X) : Call 110 [.ref 97, .int (ic q)] (hX u L xs X Z) K ↔ K [.int (b2i (pasB X (ic q)))] (hX u L xs X Z) := by
  obtain ⟨hp, h1, h10, hs, h20, hm, hu⟩ := hx
  obtain ⟨r1, r2, r3, r4, r5, r6, r7, r8, r9⟩ := hr
  have e1 : (q < 10) = True := eq_true (by omega)
  rcases Nat.eq_zero_or_pos q with y | y
  · subst y
    simp (disch := first | assumption | omega) only [en_110, w_110_0, w_110_1, w_110_4, w_110_5, w_110_6, w_110_9, w_110_10, w_110_11, w_110_14, w_110_15, w_110_18, w_110_19, w_110_20, w_110_23, w_110_24, w_110_27, w_110_28, zb1, true_and, show (ic 0 = 0) = True from eq_true rfl, if_true, pasB, show (ic 0 ≤ 0) = True from eq_true (Int32.le_refl _), true_or, decide_true, b2i_t]
  · have e2 : (ic q = 0) = False := by rw [ic_z, ic_eq (by omega) (by omega)]; exact eq_false (by omega)
    have e3 : (ic q ≤ 0) = False := by rw [ic_z, ic_le (by omega) (by omega)]; exact eq_false (by omega)
    by_cases c : q = npN X - 1
    · have e4 : (ic q = ic (npN X - 1)) = True := eq_true (by rw [c])
      have e5 : (npN X - 1 ≤ q) = True := eq_true (by omega)
      simp (disch := first | assumption | omega) only [en_110, w_110_0, w_110_1, w_110_4, w_110_5, w_110_6, w_110_9, w_110_10, w_110_11, w_110_14, w_110_15, w_110_18, w_110_19, w_110_20, w_110_23, w_110_24, w_110_27, w_110_28, zb1, true_and, e2, if_false, r1, hp, ic_pred, e4, if_true, pasB, e3, e5, ic_le, true_or, false_or, decide_true, b2i_t]
    · have e4 : (ic q = ic (npN X - 1)) = False := by rw [ic_eq (by omega) (by omega)]; exact eq_false c
      have e5 : (npN X - 1 ≤ q) = False := eq_false (by omega)
      simp (disch := first | assumption | omega) only [en_110, w_110_0, w_110_1, w_110_4, w_110_5, w_110_6, w_110_9, w_110_10, w_110_11, w_110_14, w_110_15, w_110_18, w_110_19, w_110_20, w_110_23, w_110_24, w_110_27, w_110_28, zb1, zb0, true_and, e2, if_false, r1, hp, ic_pred, e4, if_true, pasB, e3, e5, ic_le, true_or, false_or, decide_true, b2i_t, inB_ic, e1, ic_clamp, r4 q y (by omega)]
      by_cases d : X 3 q = 0 <;> simp [d, b2i]
theorem l_mshut {s : Int32} (hr : RR X) (hx : RdOK X) (hm : MR X V) : ∀ d k acc, k + d = nsN X → (WP 116 0 4 [.ref 97, .int s, .int (b2i acc), .int (ic k)] [] (hX u L xs X Z) K ↔ K [.int (b2i (acc || exB (shuB X s (V 0 5)) k d))] (hX u L xs X Z)) := by
  obtain ⟨hp, h1, h10, hs, h20, hq, hu⟩ := hx
  obtain ⟨r1, r2, r3, r4, r5, r6, r7, r8, r9⟩ := hr
  intro d
  induction d with
  | zero =>
    intro k acc hk
    have e : (nsN X ≤ k) = True := eq_true (by omega)
    rw [w_116_4]
    simp (disch := first | assumption | omega) only [en_116, w_116_0, w_116_1, w_116_2, w_116_3, w_116_5, w_116_6, w_116_9, w_116_13, w_116_16, w_116_17, w_116_20, w_116_21, w_116_22, w_116_23, w_116_26, w_116_27, w_116_30, w_116_31, w_116_32, w_116_33, w_116_36, w_116_39, w_116_40, w_116_43, w_116_44, w_116_45, w_116_46, w_116_49, w_116_52, w_116_53, w_116_56, w_116_57, w_116_58, w_116_61, w_116_64, w_116_65, r2, hs, ic_le, e, if_true, b2i_n, true_and, exB, Bool.or_false]
  | succ d ih =>
    intro k acc hk
    have e : (nsN X ≤ k) = False := eq_false (by omega)
    have e2 : (k < 20) = True := eq_true (by omega)
    have q1 := ih (k + 1) true (by omega)
    have q2 := ih (k + 1) (acc || shuB X s (V 0 5) k) (by omega)
    rw [w_116_4]
    unfold exB
    rw [← Bool.or_assoc]
    by_cases c : acc = true
    · subst c
      simp (disch := first | assumption | omega) only [en_116, w_116_0, w_116_1, w_116_2, w_116_3, w_116_5, w_116_6, w_116_9, w_116_12, w_116_13, w_116_16, w_116_17, w_116_20, w_116_21, w_116_22, w_116_23, w_116_26, w_116_27, w_116_30, w_116_31, w_116_32, w_116_33, w_116_36, w_116_39, w_116_40, w_116_43, w_116_44, w_116_45, w_116_46, w_116_49, w_116_52, w_116_53, w_116_56, w_116_57, w_116_58, w_116_61, w_116_64, w_116_65, r2, hs, ic_le, e, if_false, b2i_t, show ¬ ((1 : Int32) = 0) by decide, not_false_eq_true, if_true, ic_add1]
      simpa [b2i_t] using q1
    · have c' : acc = false := by simpa using c
      subst c'
      rw [← q2]
      simp (disch := first | assumption | omega) only [en_116, w_116_0, w_116_1, w_116_2, w_116_3, w_116_5, w_116_6, w_116_9, w_116_12, w_116_13, w_116_16, w_116_17, w_116_20, w_116_21, w_116_22, w_116_23, w_116_26, w_116_27, w_116_30, w_116_31, w_116_32, w_116_33, w_116_36, w_116_39, w_116_40, w_116_43, w_116_44, w_116_45, w_116_46, w_116_49, w_116_52, w_116_53, w_116_56, w_116_57, w_116_58, w_116_61, w_116_64, w_116_65, r2, hs, ic_le, e, if_false, b2i_f, not_true_eq_false, if_true, ic_add1, inB_ic, ic_clamp, e2, true_and, r7 k (by omega), r8 k (by omega), r9 k (by omega), hm.1, shuB, Bool.false_or]
      repeat' split
      all_goals simp_all only [b2i, nle, Bool.true_eq_false, reduceCtorEq, Classical.not_not, eq_self, Bool.decide_eq_true, imp_self, Bool.not_eq_true, decide_not, decide_true, decide_false, not_true_eq_false, not_false_eq_true, or_true, true_or, or_false, false_or, and_true, true_and, false_and, and_false, if_true, if_false, Bool.false_eq_true, reduceIte, Bool.or_true, Bool.true_or, Bool.or_false, Bool.false_or, Bool.and_true, Bool.true_and, Bool.and_false, Bool.false_and, Bool.not_true, Bool.not_false, ne_eq, iff_self, or_self, and_self]
theorem m_isShut {s : Int32} (hr : RR X) (hx : RdOK X) (hm : MR X V) : Call 116 [.ref 97, .int s] (hX u L xs X Z) K ↔ K [.int (b2i (exB (shuB X s (V 0 5)) 0 (nsN X)))] (hX u L xs X Z) := by
  have g := l_mshut (u := u) (L := L) (xs := xs) (Z := Z) (K := K) (s := s) hr hx hm (nsN X) 0 false (by omega)
  rw [b2i_f, ← ic_z, Bool.false_or] at g
  simp only [en_116, w_116_0, w_116_1, w_116_2, w_116_3, w_116_5, w_116_6, w_116_9, w_116_12, w_116_13, w_116_16, w_116_17, w_116_20, w_116_21, w_116_22, w_116_23, w_116_26, w_116_27, w_116_30, w_116_31, w_116_32, w_116_33, w_116_36, w_116_39, w_116_40, w_116_43, w_116_44, w_116_45, w_116_46, w_116_49, w_116_52, w_116_53, w_116_56, w_116_57, w_116_58, w_116_61, w_116_64, w_116_65]
  exact g
def insB (V : Nat → Nat → Int32) (r : Nat) (per : Int32) (k : Nat) : Bool := decide (V 19 k = 1 ∧ V 20 k = ic r ∧ b2i (decide (V 15 k = 0)) = per)
def insS (V : Nat → Nat → Int32) (r : Nat) (per : Int32) (k : Nat) (a : Int32) : Int32 := a + b2i (insB V r per k)
theorem l_ins {r : Nat} {per : Int32} (hm : MR X V) (ho : VOK V) : ∀ d k a, k + d = nlF V → (WP 128 0 5 [.ref 97, .int (ic r), .int per, .int a, .int (ic k)] [] (hX u L xs X Z) K ↔ K [.int (itr (insS V r per) k d a)] (hX u L xs X Z)) := by
  obtain ⟨o1, o2, o3, o4⟩ := ho
  have h18 := hm.2.2.1
  intro d
  induction d with
  | zero =>
    intro k a hk
    have e : (nlF V ≤ k) = True := eq_true (by omega)
    rw [w_128_5]
    simp (disch := first | assumption | omega) only [en_128, w_128_0, w_128_1, w_128_2, w_128_3, w_128_7, w_128_8, w_128_11, w_128_15, w_128_16, w_128_19, w_128_21, w_128_23, w_128_24, w_128_25, w_128_26, w_128_29, w_128_30, w_128_33, w_128_36, w_128_38, w_128_39, w_128_40, w_128_41, w_128_44, w_128_45, w_128_48, w_128_50, w_128_51, w_128_54, w_128_55, w_128_58, w_128_59, w_128_60, w_128_63, w_128_64, w_128_67, w_128_68, w_128_69, w_128_70, w_128_73, w_128_76, w_128_77, h18, o3, ic_le, e, if_true, itr]
  | succ d ih =>
    intro k a hk
    have e : (nlF V ≤ k) = False := eq_false (by omega)
    have e2 : (k < 80) = True := eq_true (by omega)
    have e3 : (72 + k < 392) = True := eq_true (by omega)
    have e4 : (152 + k < 392) = True := eq_true (by omega)
    have q := ih (k + 1) (insS V r per k a) (by omega)
    rw [w_128_5]
    unfold itr
    rw [← q]
    simp (disch := first | assumption | omega) only [en_128, w_128_0, w_128_1, w_128_2, w_128_3, w_128_7, w_128_8, w_128_11, w_128_14, w_128_15, w_128_16, w_128_19, w_128_21, w_128_23, w_128_24, w_128_25, w_128_26, w_128_29, w_128_30, w_128_33, w_128_36, w_128_38, w_128_39, w_128_40, w_128_41, w_128_44, w_128_45, w_128_48, w_128_50, w_128_51, w_128_54, w_128_55, w_128_58, w_128_59, w_128_60, w_128_63, w_128_64, w_128_67, w_128_68, w_128_69, w_128_70, w_128_73, w_128_76, w_128_77, h18, o3, ic_le, e, if_false, a0, a12, a24, a36, a48, a60, a72, a152, a232, a312, ic_clamp, inB_ic, e2, e3, e4, true_and, m19 hm, m20 hm, m15 hm, ic_add1, insS, insB]
    clear q ih
    by_cases c : V 15 k = 0
    · repeat' split
      all_goals simp_all only [b2i, nle, Bool.true_eq_false, reduceCtorEq, Classical.not_not, eq_self, Bool.decide_eq_true, imp_self, Bool.not_eq_true, decide_not, decide_true, decide_false, not_true_eq_false, not_false_eq_true, or_true, true_or, or_false, false_or, and_true, true_and, false_and, and_false, if_true, if_false, Bool.false_eq_true, reduceIte, Bool.or_true, Bool.true_or, Bool.or_false, Bool.false_or, Bool.and_true, Bool.true_and, Bool.and_false, Bool.false_and, Bool.not_true, Bool.not_false, ne_eq, iff_self, or_self, and_self]
    · repeat' split
      all_goals simp_all only [b2i, nle, Bool.true_eq_false, reduceCtorEq, Classical.not_not, eq_self, Bool.decide_eq_true, imp_self, Bool.not_eq_true, decide_not, decide_true, decide_false, not_true_eq_false, not_false_eq_true, or_true, true_or, or_false, false_or, and_true, true_and, false_and, and_false, if_true, if_false, Bool.false_eq_true, reduceIte, Bool.or_true, Bool.true_or, Bool.or_false, Bool.false_or, Bool.and_true, Bool.true_and, Bool.and_false, Bool.false_and, Bool.not_true, Bool.not_false, ne_eq, iff_self, or_self, and_self]
def insF (V : Nat → Nat → Int32) (r : Nat) (per : Int32) : Int32 := itr (insS V r per) 0 (nlF V) 0
theorem m_inside {r : Nat} {per : Int32} (hm : MR X V) (ho : VOK V) : Call 128 [.ref 97, .int (ic r), .int per] (hX u L xs X Z) K ↔ K [.int (insF V r per)] (hX u L xs X Z) := by
  have g := l_ins (u := u) (L := L) (xs := xs) (Z := Z) (K := K) (r := r) (per := per) hm ho (nlF V) 0 0 (by omega)
  rw [← ic_z] at g
  simp only [en_128, w_128_0, w_128_1, w_128_2, w_128_3, w_128_7, w_128_8, w_128_11, w_128_14, w_128_15, w_128_16, w_128_19, w_128_21, w_128_23, w_128_24, w_128_25, w_128_26, w_128_29, w_128_30, w_128_33, w_128_36, w_128_38, w_128_39, w_128_40, w_128_41, w_128_44, w_128_45, w_128_48, w_128_50, w_128_51, w_128_54, w_128_55, w_128_58, w_128_59, w_128_60, w_128_63, w_128_64, w_128_67, w_128_68, w_128_69, w_128_70, w_128_73, w_128_76, w_128_77]
  exact g
theorem l_mlast {r : Nat} (hm : MR X V) (ho : VOK V) (hr : r < 12) : ∀ d k acc, k + d = nrN V → (WP 130 0 4 [.ref 97, .int (ic r), .int (b2i acc), .int (ic k)] [] (hX u L xs X Z) K ↔ K [.int (b2i (acc && !exB (lasP V r) k d))] (hX u L xs X Z)) := by
  obtain ⟨o1, o2, o3, o4⟩ := ho
  have h13 := hm.2.1
  have er : (r < 12) = True := eq_true hr
  intro d
  induction d with
  | zero =>
    intro k acc hk
    have e : (nrN V ≤ k) = True := eq_true (by omega)
    rw [w_130_4]
    simp (disch := first | assumption | omega) only [en_130, w_130_0, w_130_1, w_130_2, w_130_3, w_130_5, w_130_6, w_130_9, w_130_13, w_130_16, w_130_17, w_130_18, w_130_21, w_130_22, w_130_25, w_130_26, w_130_27, w_130_28, w_130_31, w_130_32, w_130_33, w_130_36, w_130_37, w_130_40, w_130_41, w_130_42, w_130_43, w_130_44, w_130_47, w_130_48, w_130_51, w_130_52, w_130_53, w_130_56, w_130_59, w_130_60, h13, o1, ic_le, e, if_true, b2i_n, true_and, exB, Bool.not_false, Bool.and_true]
  | succ d ih =>
    intro k acc hk
    have e : (nrN V ≤ k) = False := eq_false (by omega)
    have e2 : (k < 12) = True := eq_true (by omega)
    have e3 : (k < 392) = True := eq_true (by omega)
    have q1 := ih (k + 1) false (by omega)
    have q2 := ih (k + 1) (acc && !lasP V r k) (by omega)
    rw [w_130_4]
    unfold exB
    rw [Bool.not_or, ← Bool.and_assoc]
    rw [← q2]
    by_cases c : acc = true
    · subst c
      simp (disch := first | assumption | omega) only [en_130, w_130_0, w_130_1, w_130_2, w_130_3, w_130_5, w_130_6, w_130_9, w_130_12, w_130_13, w_130_16, w_130_17, w_130_18, w_130_21, w_130_22, w_130_25, w_130_26, w_130_27, w_130_28, w_130_31, w_130_32, w_130_33, w_130_36, w_130_37, w_130_40, w_130_41, w_130_42, w_130_43, w_130_44, w_130_47, w_130_48, w_130_51, w_130_52, w_130_53, w_130_56, w_130_59, w_130_60, h13, o1, ic_le, e, if_false, b2i_t, show ((1 : Int32) = 0) = False by decide, if_true, ic_add1, ic_eq, a0, a12, a24, a36, a48, a60, a72, a152, a232, a312, ic_clamp, inB_ic, e2, e3, er, true_and, m2 hm, m6 hm, lasP, Bool.true_and]
      clear q1 q2 ih
      repeat' split
      all_goals simp_all only [b2i, nle, Bool.true_eq_false, reduceCtorEq, Classical.not_not, eq_self, Bool.decide_eq_true, imp_self, Bool.not_eq_true, decide_not, decide_true, decide_false, not_true_eq_false, not_false_eq_true, or_true, true_or, or_false, false_or, and_true, true_and, false_and, and_false, if_true, if_false, Bool.false_eq_true, reduceIte, Bool.or_true, Bool.true_or, Bool.or_false, Bool.false_or, Bool.and_true, Bool.true_and, Bool.and_false, Bool.false_and, Bool.not_true, Bool.not_false, ne_eq, iff_self, or_self, and_self]
    · have c' : acc = false := by simpa using c
      subst c'
      simp (disch := first | assumption | omega) only [en_130, w_130_0, w_130_1, w_130_2, w_130_3, w_130_5, w_130_6, w_130_9, w_130_12, w_130_13, w_130_16, w_130_17, w_130_18, w_130_21, w_130_22, w_130_25, w_130_26, w_130_27, w_130_28, w_130_31, w_130_32, w_130_33, w_130_36, w_130_37, w_130_40, w_130_41, w_130_42, w_130_43, w_130_44, w_130_47, w_130_48, w_130_51, w_130_52, w_130_53, w_130_56, w_130_59, w_130_60, h13, o1, ic_le, e, if_false, b2i_f, if_true, ic_add1, Bool.false_and]
theorem m_isLast {r : Nat} (hm : MR X V) (ho : VOK V) (hr : r < 12) : Call 130 [.ref 97, .int (ic r)] (hX u L xs X Z) K ↔ K [.int (b2i (!exB (lasP V r) 0 (nrN V)))] (hX u L xs X Z) := by
  have g := l_mlast (u := u) (L := L) (xs := xs) (Z := Z) (K := K) hm ho hr (nrN V) 0 true (by omega)
  rw [b2i_t, ← ic_z, Bool.true_and] at g
  simp only [en_130, w_130_0, w_130_1, w_130_2, w_130_3, w_130_5, w_130_6, w_130_9, w_130_12, w_130_13, w_130_16, w_130_17, w_130_18, w_130_21, w_130_22, w_130_25, w_130_26, w_130_27, w_130_28, w_130_31, w_130_32, w_130_33, w_130_36, w_130_37, w_130_40, w_130_41, w_130_42, w_130_43, w_130_44, w_130_47, w_130_48, w_130_51, w_130_52, w_130_53, w_130_56, w_130_59, w_130_60]
  exact g
theorem l_mlate {r p : Nat} (hr : RR X) (hx : RdOK X) (hm : MR X V) (h12 : r < 12) (hp : p < npN X) : ∀ d k a, k + d = (if V 2 r = 0 then npN X - 1 else p) → (WP 129 0 33 [.ref 97, .int (ic r), .int (ic p), .int a, .int (ic k)] [] (hX u L xs X Z) K ↔ K [.int (V 0 5 - itr (dueS X) k d a)] (hX u L xs X Z)) := by
  obtain ⟨hp1, h1, h10, hs, h20, hq, hu⟩ := hx
  obtain ⟨r1, r2, r3, r4, r5, r6, r7, r8, r9⟩ := hr
  have er : (r < 12) = True := eq_true h12
  have h23 := hm.1
  have e5 : ∀ (A B : Prop), (if V 2 r = 0 then A else B) = if V 2 r = 0 then A else B := fun _ _ => rfl
  intro d
  induction d with
  | zero =>
    intro k a hk
    rw [w_129_33]
    by_cases c : V 2 r = 0
    · rw [if_pos c] at hk
      have e : (npN X - 1 ≤ k) = True := eq_true (by omega)
      simp (disch := first | assumption | omega) only [en_129, w_129_0, w_129_1, w_129_4, w_129_6, w_129_7, w_129_8, w_129_9, w_129_10, w_129_11, w_129_14, w_129_15, w_129_16, w_129_17, w_129_18, w_129_21, w_129_22, w_129_23, w_129_26, w_129_27, w_129_30, w_129_31, w_129_35, w_129_36, w_129_39, w_129_40, w_129_41, w_129_44, w_129_45, w_129_48, w_129_49, w_129_52, w_129_53, w_129_54, w_129_58, w_129_59, w_129_62, w_129_64, w_129_65, w_129_66, w_129_67, w_129_68, w_129_69, w_129_72, w_129_75, w_129_76, w_129_79, w_129_80, w_129_81, a0, a12, a24, a36, a48, a60, a72, a152, a232, a312, ic_clamp, inB_ic, er, true_and, m2 hm, c, if_true, r1, hp1, ic_pred, ic_le, e, h23, itr]
    · rw [if_neg c] at hk
      have e : (p ≤ k) = True := eq_true (by omega)
      simp (disch := first | assumption | omega) only [en_129, w_129_0, w_129_1, w_129_4, w_129_6, w_129_7, w_129_8, w_129_9, w_129_10, w_129_11, w_129_14, w_129_15, w_129_16, w_129_17, w_129_18, w_129_21, w_129_22, w_129_23, w_129_26, w_129_27, w_129_30, w_129_31, w_129_35, w_129_36, w_129_39, w_129_40, w_129_41, w_129_44, w_129_45, w_129_48, w_129_49, w_129_52, w_129_53, w_129_54, w_129_58, w_129_59, w_129_62, w_129_64, w_129_65, w_129_66, w_129_67, w_129_68, w_129_69, w_129_72, w_129_75, w_129_76, w_129_79, w_129_80, w_129_81, a0, a12, a24, a36, a48, a60, a72, a152, a232, a312, ic_clamp, inB_ic, er, true_and, m2 hm, c, if_false, ic_le, e, if_true, h23, itr]
  | succ d ih =>
    intro k a hk
    have q := ih (k + 1) (dueS X k a) (by omega)
    rw [w_129_33]
    unfold itr
    rw [← q]
    by_cases c : V 2 r = 0
    · rw [if_pos c] at hk
      have e : (npN X - 1 ≤ k) = False := eq_false (by omega)
      have e2 : (k < 10) = True := eq_true (by omega)
      simp (disch := first | assumption | omega) only [en_129, w_129_0, w_129_1, w_129_4, w_129_6, w_129_7, w_129_8, w_129_9, w_129_10, w_129_11, w_129_14, w_129_15, w_129_16, w_129_17, w_129_18, w_129_21, w_129_22, w_129_23, w_129_26, w_129_27, w_129_30, w_129_31, w_129_35, w_129_36, w_129_39, w_129_40, w_129_41, w_129_44, w_129_45, w_129_48, w_129_49, w_129_52, w_129_53, w_129_54, w_129_57, w_129_58, w_129_59, w_129_62, w_129_64, w_129_65, w_129_66, w_129_67, w_129_68, w_129_69, w_129_72, w_129_75, w_129_76, w_129_79, w_129_80, w_129_81, a0, a12, a24, a36, a48, a60, a72, a152, a232, a312, ic_clamp, inB_ic, er, e2, true_and, m2 hm, c, if_true, if_false, r1, hp1, ic_pred, ic_le, e, r3, ic_add1, dueS]
    · rw [if_neg c] at hk
      have e : (p ≤ k) = False := eq_false (by omega)
      have e2 : (k < 10) = True := eq_true (by omega)
      simp (disch := first | assumption | omega) only [en_129, w_129_0, w_129_1, w_129_4, w_129_6, w_129_7, w_129_8, w_129_9, w_129_10, w_129_11, w_129_14, w_129_15, w_129_16, w_129_17, w_129_18, w_129_21, w_129_22, w_129_23, w_129_26, w_129_27, w_129_30, w_129_31, w_129_35, w_129_36, w_129_39, w_129_40, w_129_41, w_129_44, w_129_45, w_129_48, w_129_49, w_129_52, w_129_53, w_129_54, w_129_57, w_129_58, w_129_59, w_129_62, w_129_64, w_129_65, w_129_66, w_129_67, w_129_68, w_129_69, w_129_72, w_129_75, w_129_76, w_129_79, w_129_80, w_129_81, a0, a12, a24, a36, a48, a60, a72, a152, a232, a312, ic_clamp, inB_ic, er, e2, true_and, m2 hm, c, if_false, ic_le, e, r3, ic_add1, dueS]
theorem m_lateness {r : Nat} (hr : RR X) (hx : RdOK X) (hm : MR X V) (h12 : r < 12) (hv : V 7 r = ic (pN V r)) (hp : pN V r < npN X) : Call 129 [.ref 97, .int (ic r)] (hX u L xs X Z) K ↔ K [.int (lateF X V r (pN V r) (npN X))] (hX u L xs X Z) := by
  have er : (r < 12) = True := eq_true h12
  have e3 : (12 + r < 392) = True := eq_true (by omega)
  have h10 := hx.2.2.1
  simp (disch := first | assumption | omega) only [en_129, w_129_0, w_129_1, w_129_4, w_129_6, w_129_7, w_129_8, w_129_9, w_129_10, w_129_11, w_129_14, w_129_15, w_129_16, w_129_17, w_129_18, w_129_21, w_129_22, w_129_23, w_129_26, w_129_27, w_129_30, w_129_31, w_129_35, w_129_36, w_129_39, w_129_40, w_129_41, w_129_44, w_129_45, w_129_48, w_129_49, w_129_52, w_129_53, w_129_54, w_129_57, w_129_58, w_129_59, w_129_62, w_129_64, w_129_65, w_129_66, w_129_67, w_129_68, w_129_69, w_129_72, w_129_75, w_129_76, w_129_79, w_129_80, w_129_81, a0, a12, a24, a36, a48, a60, a72, a152, a232, a312, ic_clamp, inB_ic, er, e3, true_and, m2 hm, m7 hm, m5 hm, hv]
  unfold lateF
  by_cases c : V 2 r = 0
  · simp only [c, if_true]
    exact l_mlate hr hx hm h12 hp _ _ _ (by rw [if_pos c]; omega)
  · simp only [c, if_false]
    exact l_mlate hr hx hm h12 hp _ 0 _ (by rw [if_neg c]; omega)
theorem m_trainIn {k : Nat} {p : Int32} (hr : RR X) (hm : MR X V) (hk : k < 8) : Call 126 [.ref 97, .int (ic k), .int p] (hX u L xs X Z) K ↔ K [.int (traF X (ic k) p (V 0 5))] (hX u L xs X Z) := by
  obtain ⟨r1, r2, r3, r4, r5, r6, r7, r8, r9⟩ := hr
  have ek : (k < 8) = True := eq_true hk
  have h23 := hm.1
  have e8 : ((8 : Int32) ≤ ic k) = False := by rw [show (8 : Int32) = ic 8 from rfl, ic_le (by omega) (by omega)]; exact eq_false (by omega)
  simp (disch := first | assumption | omega) only [en_126, w_126_0, w_126_1, w_126_4, w_126_5, w_126_6, w_126_7, w_126_10, w_126_13, w_126_16, w_126_17, w_126_20, w_126_21, w_126_22, w_126_23, w_126_26, w_126_29, w_126_30, w_126_33, w_126_34, w_126_37, w_126_38, w_126_39, w_126_40, w_126_43, w_126_44, a0, a12, a24, a36, a48, a60, a72, a152, a232, a312, ic_clamp, inB_ic, ek, true_and, r5 k hk, r6 k hk, h23, traF, ic_neg, e8, false_or]
  by_cases c : X 7 k = p
  · by_cases c2 : V 0 5 < X 8 k
    · simp [c, c2, nle]
    · simp [c, c2, nle]
  · simp [c]
end
