/-! THE MODEL'S WORLD: taking in -/
section
variable {u : Nat × Nat} {L : Nat} {xs : Nat → Int32} {X : Nat → Nat → Int32} {Z : Nat → Nat → Int64} {K : List Value → AH → Prop} {V : Nat → Nat → Int32}
/-- the loads go from and to places -/
def LI (V : Nat → Nat → Int32) : Prop := ∀ k, k < nlF V → ∃ a b, a < 10 ∧ b < 10 ∧ V 16 k = ic a ∧ V 17 k = ic b
def disN (a b : Nat) : Nat := if a < b then b - a else a - b
theorem dis_lt {a b : Nat} (ha : a < 10) (hb : b < 10) : disN a b < 10 := by unfold disN; split <;> omega
theorem abs_dis {a b : Nat} (ha : a < 10) (hb : b < 10) : absI (ic b - ic a) = ic (disN a b) := by
  have q : ∀ a b : Fin 10, absI (ic b.1 - ic a.1) = ic (disN a.1 b.1) := by decide +kernel
  exact q ⟨a, ha⟩ ⟨b, hb⟩
theorem sub_dis {a b : Nat} (ha : a < 10) (hb : b < 10) : (if ic b ≤ ic a then ic a - ic b else ic b - ic a) = ic (disN a b) := by
  have q : ∀ a b : Fin 10, (if ic b.1 ≤ ic a.1 then ic a.1 - ic b.1 else ic b.1 - ic a.1) = ic (disN a.1 b.1) := by decide +kernel
  exact q ⟨a, ha⟩ ⟨b, hb⟩
theorem neg_dis {a b : Nat} (ha : a < 10) (hb : b < 10) : (- ic a < - ic b) = (b < a) := by
  have q : ∀ a b : Fin 10, decide (- ic a.1 < - ic b.1) = decide (b.1 < a.1) := by decide +kernel
  have := q ⟨a, ha⟩ ⟨b, hb⟩
  simp only [decide_eq_decide] at this
  exact propext this
def dsF (V : Nat → Nat → Int32) (k : Nat) : Nat := disN (V 16 k).toNatClampNeg (V 17 k).toNatClampNeg
theorem ds_abs (hl : LI V) {k : Nat} (hk : k < nlF V) : absI (V 17 k - V 16 k) = ic (dsF V k) ∧ dsF V k < 10 ∧ (if V 17 k ≤ V 16 k then V 16 k - V 17 k else V 17 k - V 16 k) = ic (dsF V k) := by
  obtain ⟨a, b, ha, hb, e1, e2⟩ := hl k hk
  unfold dsF
  rw [e1, e2, ic_clamp (by omega), ic_clamp (by omega)]
  exact ⟨abs_dis ha hb, dis_lt ha hb, sub_dis ha hb⟩
theorem m_farOf {k : Nat} (hm : MR X V) (ho : VOK V) (hl : LI V) (hk : k < nlF V) : Call 134 [.ref 97, .int (ic k)] (hX u L xs X Z) K ↔ K [.int (ic (dsF V k))] (hX u L xs X Z) := by
  have h80 := ho.2.2.2
  have e2 : (k < 80) = True := eq_true (by omega)
  rw [← (ds_abs hl hk).2.2]
  simp (disch := first | assumption | omega) only [en_134, w_134_0, w_134_1, w_134_4, w_134_5, w_134_6, w_134_7, w_134_10, w_134_11, w_134_12, w_134_15, w_134_16, w_134_19, w_134_20, w_134_21, w_134_22, w_134_25, w_134_26, w_134_27, w_134_28, w_134_31, w_134_32, w_134_35, w_134_36, w_134_37, w_134_38, w_134_41, w_134_42, w_134_43, w_134_44, a0, a12, a24, a36, a48, a60, a72, a152, a232, a312, ic_clamp, inB_ic, e2, true_and, m16 hm, m17 hm]
  split <;> rfl
theorem m_waitsFor {k r : Nat} (hm : MR X V) (hk : k < 80) (hr : r < 12) : Call 133 [.ref 97, .int (ic k), .int (ic r)] (hX u L xs X Z) K ↔ K [.int (b2i (decide (V 19 k = 0 ∧ ¬ V 0 5 < V 18 k ∧ V 16 k = V 7 r ∧ b2i (decide (V 16 k < V 17 k)) = V 2 r)))] (hX u L xs X Z) := by
  have e2 : (k < 80) = True := eq_true hk
  have e3 : (72 + k < 392) = True := eq_true (by omega)
  have e4 : (12 + r < 392) = True := eq_true (by omega)
  have er : (r < 12) = True := eq_true hr
  have h23 := hm.1
  simp (disch := first | assumption | omega) only [en_133, w_133_0, w_133_1, w_133_4, w_133_6, w_133_7, w_133_8, w_133_9, w_133_12, w_133_13, w_133_16, w_133_17, w_133_18, w_133_19, w_133_22, w_133_25, w_133_26, w_133_29, w_133_30, w_133_31, w_133_32, w_133_35, w_133_37, w_133_38, w_133_39, w_133_40, w_133_43, w_133_44, w_133_47, w_133_48, w_133_49, w_133_50, w_133_53, w_133_54, w_133_55, w_133_58, w_133_59, w_133_62, w_133_63, w_133_64, w_133_67, w_133_68, w_133_69, w_133_72, w_133_73, w_133_76, w_133_77, a0, a12, a24, a36, a48, a60, a72, a152, a232, a312, ic_clamp, inB_ic, e2, e3, e4, er, true_and, m19 hm, m18 hm, m16 hm, m17 hm, m7 hm, m2 hm, h23, zb0, zb1]
  by_cases c : V 16 k < V 17 k
  · repeat' split
    all_goals simp_all only [b2i, nle, Bool.true_eq_false, reduceCtorEq, Classical.not_not, eq_self, Bool.decide_eq_true, imp_self, Bool.not_eq_true, decide_not, decide_true, decide_false, not_true_eq_false, not_false_eq_true, or_true, true_or, or_false, false_or, and_true, true_and, false_and, and_false, if_true, if_false, Bool.false_eq_true, reduceIte, Bool.or_true, Bool.true_or, Bool.or_false, Bool.false_or, Bool.and_true, Bool.true_and, Bool.and_false, Bool.false_and, Bool.not_true, Bool.not_false, ne_eq, iff_self, or_self, and_self]
  · repeat' split
    all_goals simp_all only [b2i, nle, Bool.true_eq_false, reduceCtorEq, Classical.not_not, eq_self, Bool.decide_eq_true, imp_self, Bool.not_eq_true, decide_not, decide_true, decide_false, not_true_eq_false, not_false_eq_true, or_true, true_or, or_false, false_or, and_true, true_and, false_and, and_false, if_true, if_false, Bool.false_eq_true, reduceIte, Bool.or_true, Bool.true_or, Bool.or_false, Bool.false_or, Bool.and_true, Bool.true_and, Bool.and_false, Bool.false_and, Bool.not_true, Bool.not_false, ne_eq, iff_self, or_self, and_self]
theorem ran_lt {per : Int32} (hl : LI V) {k j : Nat} (hk : k < nlF V) (hj : j < nlF V) (h1 : b2i (decide (V 15 k = 0)) = per) (h2 : b2i (decide (V 15 j = 0)) = per) : (ranF V k < ranF V j) = if per = 0 then dsF V j < dsF V k else V 18 k < V 18 j := by
  unfold ranF
  by_cases c : V 15 k = 0
  · rw [← h1] at h2
    by_cases c2 : V 15 j = 0
    · rw [if_pos c, if_pos c2, if_neg (by rw [← h1]; simp [c, b2i])]
    · simp [c, c2, b2i] at h2
  · rw [← h1] at h2
    by_cases c2 : V 15 j = 0
    · simp [c, c2, b2i] at h2
    · rw [if_neg c, if_neg c2, if_pos (by rw [← h1]; simp [c, b2i]), (ds_abs hl hk).1, (ds_abs hl hj).1, neg_dis (ds_abs hl hk).2.1 (ds_abs hl hj).2.1]
theorem s_mnext {k r : Nat} {per : Int32} {nx : Int32} {l5 : Value} (hm : MR X V) (ho : VOK V) (hl : LI V) (hr : r < 12) (hp : per = 0 ∨ per = 1) (hk : k < nlF V) (hx : nx = -1 ∨ ∃ j, nx = ic j ∧ j < nlF V ∧ b2i (decide (V 15 j = 0)) = per) (hc : b2i (decide (V 15 k = 0)) = per) : ∃ l5', (WP 135 0 43 [.ref 97, .int (ic r), .int per, .int nx, .int (ic k), l5] [] (hX u L xs X Z) K ↔ WP 135 0 103 [.ref 97, .int (ic r), .int per, .int (if nx = -1 ∨ ranF V k < ranF V nx.toNatClampNeg then ic k else nx), .int (ic k), l5'] [] (hX u L xs X Z) K) := by
  have h80 := ho.2.2.2
  have e2 : (k < 80) = True := eq_true (by omega)
  rcases hx with rfl | ⟨j, rfl, hj, hjc⟩
  · refine ⟨.int 1, ?_⟩
    simp only [true_or, if_true]
    simp (disch := first | assumption | omega) only [en_135, w_135_0, w_135_1, w_135_2, w_135_3, w_135_7, w_135_8, w_135_11, w_135_14, w_135_15, w_135_17, w_135_18, w_135_21, w_135_24, w_135_25, w_135_28, w_135_30, w_135_31, w_135_34, w_135_35, w_135_38, w_135_39, w_135_40, w_135_43, w_135_44, w_135_47, w_135_48, w_135_51, w_135_52, w_135_55, w_135_57, w_135_58, w_135_59, w_135_62, w_135_63, w_135_64, w_135_67, w_135_70, w_135_71, w_135_73, w_135_76, w_135_77, w_135_78, w_135_81, w_135_84, w_135_85, w_135_88, w_135_89, w_135_91, w_135_93, w_135_96, w_135_98, w_135_101, w_135_102, w_135_106, w_135_109, w_135_110, show ((-1 : Int32) < 0) = True by decide, if_true, show ((1 : Int32) = 0) = False by decide, if_false]
  · have ej : (j < 80) = True := eq_true (by omega)
    have z : (ic j = -1) = False := eq_false (fun q => by have := ic_neg (n := j) (by omega); rw [q] at this; exact absurd this (by decide))
    have key := ran_lt hl hk hj hc hjc
    refine ⟨.int (b2i (decide (ranF V k < ranF V j))), ?_⟩
    simp only [z, false_or, ic_clamp (show j < 2147483648 by omega), key]
    have q1 := (ds_abs hl hk).2.1
    have q2 := (ds_abs hl hj).2.1
    rcases hp with rfl | rfl
    · simp (disch := first | assumption | omega) only [en_135, w_135_0, w_135_1, w_135_2, w_135_3, w_135_7, w_135_8, w_135_11, w_135_14, w_135_15, w_135_17, w_135_18, w_135_21, w_135_24, w_135_25, w_135_28, w_135_30, w_135_31, w_135_34, w_135_35, w_135_38, w_135_39, w_135_40, w_135_43, w_135_44, w_135_47, w_135_48, w_135_51, w_135_52, w_135_55, w_135_57, w_135_58, w_135_59, w_135_62, w_135_63, w_135_64, w_135_67, w_135_70, w_135_71, w_135_73, w_135_76, w_135_77, w_135_78, w_135_81, w_135_84, w_135_85, w_135_88, w_135_89, w_135_91, w_135_93, w_135_96, w_135_98, w_135_101, w_135_102, w_135_106, w_135_109, w_135_110, ic_neg, if_false, if_true, m_farOf hm ho hl hk, m_farOf hm ho hl hj, ne_thr, app1, List.cons_append, List.nil_append, true_and, ic_le]
      by_cases c : dsF V j < dsF V k
      · have c' : ¬ dsF V k ≤ dsF V j := by omega
        simp [c, c', b2i]
      · have c' : dsF V k ≤ dsF V j := by omega
        simp [c, c', b2i]
    · simp (disch := first | assumption | omega) only [en_135, w_135_0, w_135_1, w_135_2, w_135_3, w_135_7, w_135_8, w_135_11, w_135_14, w_135_15, w_135_17, w_135_18, w_135_21, w_135_24, w_135_25, w_135_28, w_135_30, w_135_31, w_135_34, w_135_35, w_135_38, w_135_39, w_135_40, w_135_43, w_135_44, w_135_47, w_135_48, w_135_51, w_135_52, w_135_55, w_135_57, w_135_58, w_135_59, w_135_62, w_135_63, w_135_64, w_135_67, w_135_70, w_135_71, w_135_73, w_135_76, w_135_77, w_135_78, w_135_81, w_135_84, w_135_85, w_135_88, w_135_89, w_135_91, w_135_93, w_135_96, w_135_98, w_135_101, w_135_102, w_135_106, w_135_109, w_135_110, ic_neg, if_false, show ((1 : Int32) = 0) = False by decide, inB_ic, ic_clamp, e2, ej, true_and, m18 hm]
      by_cases c : V 18 k < V 18 j
      · simp [c, nle, b2i]
      · simp [c, nle, b2i]
theorem l_mnext {r : Nat} {per : Int32} (hm : MR X V) (ho : VOK V) (hl : LI V) (hr : r < 12) (hp : per = 0 ∨ per = 1) : ∀ d k nx l5, (nx = -1 ∨ ∃ j, nx = ic j ∧ j < nlF V ∧ b2i (decide (V 15 j = 0)) = per) → k + d = nlF V → (WP 135 0 5 [.ref 97, .int (ic r), .int per, .int nx, .int (ic k), l5] [] (hX u L xs X Z) K ↔ K [.int (itr (nxtS V (V 7 r) (V 2 r) per (V 0 5)) k d nx)] (hX u L xs X Z)) := by
  have h80 := ho.2.2.2
  have h18 := hm.2.2.1
  have o3 := ho.2.2.1
  intro d
  induction d with
  | zero =>
    intro k nx l5 hx hk
    have e : (nlF V ≤ k) = True := eq_true (by omega)
    rw [w_135_5]
    simp (disch := first | assumption | omega) only [en_135, w_135_0, w_135_1, w_135_2, w_135_3, w_135_7, w_135_8, w_135_11, w_135_15, w_135_17, w_135_18, w_135_21, w_135_24, w_135_25, w_135_28, w_135_30, w_135_31, w_135_34, w_135_35, w_135_38, w_135_39, w_135_40, w_135_43, w_135_44, w_135_47, w_135_48, w_135_51, w_135_52, w_135_55, w_135_57, w_135_58, w_135_59, w_135_62, w_135_63, w_135_64, w_135_67, w_135_70, w_135_71, w_135_73, w_135_76, w_135_77, w_135_78, w_135_81, w_135_84, w_135_85, w_135_88, w_135_89, w_135_91, w_135_93, w_135_96, w_135_98, w_135_101, w_135_102, w_135_103, w_135_106, w_135_109, w_135_110, h18, o3, ic_le, e, if_true, itr]
  | succ d ih =>
    intro k nx l5 hx hk
    have e : (nlF V ≤ k) = False := eq_false (by omega)
    have e2 : (k < 80) = True := eq_true (by omega)
    have hk80 : k < 80 := by omega
    rw [w_135_5]
    unfold itr
    simp (disch := first | assumption | omega) only [en_135, w_135_0, w_135_1, w_135_2, w_135_3, w_135_7, w_135_8, w_135_11, w_135_14, w_135_15, w_135_17, w_135_18, w_135_21, w_135_24, w_135_25, w_135_28, w_135_30, w_135_31, w_135_34, w_135_35, w_135_38, w_135_39, w_135_40, w_135_44, w_135_47, w_135_48, w_135_51, w_135_52, w_135_55, w_135_57, w_135_58, w_135_59, w_135_62, w_135_63, w_135_64, w_135_67, w_135_70, w_135_71, w_135_73, w_135_76, w_135_77, w_135_78, w_135_81, w_135_84, w_135_85, w_135_88, w_135_89, w_135_91, w_135_93, w_135_96, w_135_98, w_135_101, w_135_102, w_135_106, w_135_109, w_135_110, h18, o3, ic_le, e, if_false, m_waitsFor hm hk80 hr, ne_thr, app1, true_and, a0, a12, a24, a36, a48, a60, a72, a152, a232, a312, ic_clamp, inB_ic, e2, m15 hm]
    by_cases cb : comB V (V 7 r) (V 2 r) per (V 0 5) k = true
    · have cb' := cb
      unfold comB at cb'
      simp only [decide_eq_true_eq] at cb'
      obtain ⟨c1, c2, c3, c4, c5⟩ := cb'
      have e5 : decide (V 19 k = 0 ∧ ¬ V 0 5 < V 18 k ∧ V 16 k = V 7 r ∧ b2i (decide (V 16 k < V 17 k)) = V 2 r) = true := by
        simp only [decide_eq_true_eq]
        exact ⟨c1, c3, c2, by rw [c2]; exact c5⟩
      obtain ⟨l5', key⟩ := s_mnext (u := u) (L := L) (xs := xs) (Z := Z) (K := K) (l5 := l5) hm ho hl hr hp (show k < nlF V by omega) hx c4
      have nx' : nxtS V (V 7 r) (V 2 r) per (V 0 5) k nx = if nx = -1 ∨ ranF V k < ranF V nx.toNatClampNeg then ic k else nx := by unfold nxtS; simp only [cb, true_and]
      have fin : WP 135 0 43 [.ref 97, .int (ic r), .int per, .int nx, .int (ic k), l5] [] (hX u L xs X Z) K ↔ K [.int (itr (nxtS V (V 7 r) (V 2 r) per (V 0 5)) (k + 1) d (nxtS V (V 7 r) (V 2 r) per (V 0 5) k nx))] (hX u L xs X Z) := by
        rw [key, nx', w_135_103, ic_add1, w_135_106]
        refine ih (k + 1) _ _ ?_ (by omega)
        split
        · exact Or.inr ⟨k, rfl, by omega, c4⟩
        · exact hx
      rw [← fin]
      by_cases c : V 15 k = 0
      · have c4' : per = 1 := by rw [← c4]; simp [c, b2i]
        subst c4'
        rw [e5, b2i_t]
        simp [c]
      · have c4' : per = 0 := by rw [← c4]; simp [c, b2i]
        subst c4'
        rw [e5, b2i_t]
        simp [c]
    · have nx' : nxtS V (V 7 r) (V 2 r) per (V 0 5) k nx = nx := by unfold nxtS; simp [cb]
      have key : WP 135 0 103 [.ref 97, .int (ic r), .int per, .int nx, .int (ic k), l5] [] (hX u L xs X Z) K ↔ K [.int (itr (nxtS V (V 7 r) (V 2 r) per (V 0 5)) (k + 1) d (nxtS V (V 7 r) (V 2 r) per (V 0 5) k nx))] (hX u L xs X Z) := by
        rw [nx', w_135_103, ic_add1, w_135_106]
        exact ih (k + 1) nx _ hx (by omega)
      rw [← key]
      by_cases e5 : (V 19 k = 0 ∧ ¬ V 0 5 < V 18 k ∧ V 16 k = V 7 r ∧ b2i (decide (V 16 k < V 17 k)) = V 2 r)
      · obtain ⟨d1, d2, d3, d4⟩ := e5
        have c4 : ¬ b2i (decide (V 15 k = 0)) = per := fun q => cb (by unfold comB; simp only [decide_eq_true_eq]; exact ⟨d1, d3, d2, q, by rw [← d3]; exact d4⟩)
        have e6 : b2i (decide (V 19 k = 0 ∧ ¬ V 0 5 < V 18 k ∧ V 16 k = V 7 r ∧ b2i (decide (V 16 k < V 17 k)) = V 2 r)) = 1 := by rw [decide_eq_true (by exact ⟨d1, d2, d3, d4⟩)]; rfl
        rw [e6]
        by_cases c : V 15 k = 0
        · have c4' : ¬ (1 : Int32) = per := fun q => c4 (by rw [← q]; simp [c, b2i])
          simp [c, c4']
        · have c4' : ¬ (0 : Int32) = per := fun q => c4 (by rw [← q]; simp [c, b2i])
          simp [c, c4']
      · have e6 : b2i (decide (V 19 k = 0 ∧ ¬ V 0 5 < V 18 k ∧ V 16 k = V 7 r ∧ b2i (decide (V 16 k < V 17 k)) = V 2 r)) = 0 := by rw [decide_eq_false e5]; rfl
        rw [e6]
        simp
theorem m_nextOf {r : Nat} {per : Int32} (hm : MR X V) (ho : VOK V) (hl : LI V) (hr : r < 12) (hp : per = 0 ∨ per = 1) : Call 135 [.ref 97, .int (ic r), .int per] (hX u L xs X Z) K ↔ K [.int (nexF V (V 7 r) (V 2 r) per (V 0 5))] (hX u L xs X Z) := by
  simp only [en_135, w_135_0, w_135_1, w_135_2, w_135_3, w_135_7, w_135_8, w_135_11, w_135_14, w_135_15, w_135_17, w_135_18, w_135_21, w_135_24, w_135_25, w_135_28, w_135_30, w_135_31, w_135_34, w_135_35, w_135_38, w_135_39, w_135_40, w_135_43, w_135_44, w_135_47, w_135_48, w_135_51, w_135_52, w_135_55, w_135_57, w_135_58, w_135_59, w_135_62, w_135_63, w_135_64, w_135_67, w_135_70, w_135_71, w_135_73, w_135_76, w_135_77, w_135_78, w_135_81, w_135_84, w_135_85, w_135_88, w_135_89, w_135_91, w_135_93, w_135_96, w_135_98, w_135_101, w_135_102, w_135_103, w_135_106, w_135_109, w_135_110]
  exact l_mnext hm ho hl hr hp (nlF V) 0 _ _ (Or.inl rfl) (by omega)
/-- what the model keeps counting anew: who is inside -/
def CI (V : Nat → Nat → Int32) : Prop := ∀ r, r < 12 → V 9 r = insF V r 1 ∧ V 10 r = insF V r 0
theorem far_eq (hl : LI V) {k : Nat} (hk : k < nlF V) : farF V k = if V 15 k = 0 then 2 + ic (dsF V k) else if V 15 k = 1 then 1 else (ic (dsF V k) + 1) / 2 := by
  unfold farF
  rw [(ds_abs hl hk).1]
set_option maxRecDepth 8000 in
theorem s_mtake {r k : Nat} {per fr : Int32} (hm : MR X V) (ho : VOK V) (hl : LI V) (hr : r < 12) (hk : k < nlF V) (hK : ∀ X', MR X' (getF V r k) → Fr X X' → WP 136 0 150 [.ref 97, .int (ic r), .int per, .int (fr + -1), .int (ic k)] [] (hX u L xs X' Z) K) : WP 136 0 44 [.ref 97, .int (ic r), .int per, .int fr, .int (ic k)] [] (hX u L xs X Z) K := by
  have h80 := ho.2.2.2
  have e2 : (k < 80) = True := eq_true (by omega)
  have e3 : (72 + k < 392) = True := eq_true (by omega)
  have e4 : (152 + k < 392) = True := eq_true (by omega)
  have e5 : (312 + k < 392) = True := eq_true (by omega)
  have e6 : (60 + r < 392) = True := eq_true (by omega)
  have g1 := u19 (v := 1) hm (show k < 80 by omega)
  have g2 := u20 (v := ic r) g1 (show k < 80 by omega)
  have e7 : nlF (sv (sv V 19 k 1) 20 k (ic r)) = nlF V := by unfold nlF; simp (disch := omega) only [sv_a]
  have o2 : VOK (sv (sv V 19 k 1) 20 k (ic r)) := VOK_of (by simp (disch := omega) only [sv_a]) (by simp (disch := omega) only [sv_a]) ho
  have l2 : LI (sv (sv V 19 k 1) 20 k (ic r)) := by
    intro j hj
    rw [e7] at hj
    simp (disch := omega) only [sv_a]
    exact hl j hj
  have d2 : dsF (sv (sv V 19 k 1) 20 k (ic r)) k = dsF V k := by unfold dsF; simp (disch := omega) only [sv_a]
  have k2 : k < nlF (sv (sv V 19 k 1) 20 k (ic r)) := by rw [e7]; exact hk
  have g3 := u22 (v := farF V k) g2 (show k < 80 by omega)
  have g4 := u11 (v := V 11 r + farF V k) g3 hr
  have c11 : (sv (sv X 113 (72 + k) 1) 113 (152 + k) (ic r)) 113 (60 + r) = V 11 r := by
    rw [sv_i (by omega), sv_i (by omega)]
    exact m11 hm hr
  have fin := hK (sv (sv (sv (sv X 113 (72 + k) 1) 113 (152 + k) (ic r)) 113 (312 + k) (farF V k)) 113 (60 + r) (V 11 r + farF V k)) (by unfold getF; exact MR_ex g4 (fun a h1 h2 h3 => cntF_ne h1 h2)) (Fr_tr (Fr_tr (Fr_tr Fr_row Fr_row) Fr_row) Fr_row)
  have fe := far_eq hl hk
  have mf := fun K => m_farOf (u := u) (L := L) (xs := xs) (Z := Z) (K := K) g2 o2 l2 k2
  simp only [d2] at mf
  have key : WP 136 0 123 [.ref 97, .int (ic r), .int per, .int fr, .int (ic k)] [.int (farF V k), .int (ic (312 + k)), .ref 113] (hX u L xs (sv (sv X 113 (72 + k) 1) 113 (152 + k) (ic r)) Z) K := by
    simp (disch := first | assumption | omega) only [en_136, w_136_0, w_136_1, w_136_4, w_136_5, w_136_8, w_136_9, w_136_10, w_136_13, w_136_14, w_136_17, w_136_18, w_136_19, w_136_20, w_136_21, w_136_22, w_136_25, w_136_26, w_136_27, w_136_28, w_136_29, w_136_30, w_136_33, w_136_35, w_136_36, w_136_39, w_136_41, w_136_44, w_136_45, w_136_48, w_136_50, w_136_52, w_136_53, w_136_54, w_136_55, w_136_56, w_136_59, w_136_62, w_136_64, w_136_65, w_136_66, w_136_67, w_136_68, w_136_71, w_136_74, w_136_76, w_136_77, w_136_78, w_136_81, w_136_83, w_136_84, w_136_87, w_136_88, w_136_89, w_136_91, w_136_94, w_136_95, w_136_98, w_136_99, w_136_102, w_136_104, w_136_105, w_136_106, w_136_109, w_136_110, w_136_113, w_136_114, w_136_116, w_136_119, w_136_120, w_136_121, w_136_122, w_136_123, w_136_124, w_136_125, w_136_128, w_136_130, w_136_131, w_136_132, w_136_133, w_136_134, w_136_135, w_136_138, w_136_141, w_136_143, w_136_144, w_136_145, w_136_146, w_136_147, w_136_151, w_136_152, w_136_153, w_136_156, w_136_158, w_136_161, a0, a12, a24, a36, a48, a60, a72, a152, a232, a312, ic_clamp, inB_ic, e2, e3, e4, e5, e6, true_and, sv_d, sv_a, sv_s, sv_i, c11, m11 hm]
    exact fin
  have m15k : (sv (sv X 113 (72 + k) 1) 113 (152 + k) (ic r)) 109 k = V 15 k := by
    rw [sv_a (by decide), sv_a (by decide)]; exact m15 hm (by omega)
  simp (disch := first | assumption | omega) only [en_136, w_136_0, w_136_1, w_136_4, w_136_5, w_136_8, w_136_9, w_136_10, w_136_13, w_136_14, w_136_17, w_136_18, w_136_19, w_136_20, w_136_21, w_136_22, w_136_25, w_136_26, w_136_27, w_136_28, w_136_29, w_136_30, w_136_33, w_136_35, w_136_36, w_136_39, w_136_41, w_136_44, w_136_45, w_136_48, w_136_50, w_136_52, w_136_53, w_136_54, w_136_55, w_136_56, w_136_59, w_136_62, w_136_64, w_136_65, w_136_66, w_136_67, w_136_68, w_136_71, w_136_74, w_136_76, w_136_77, w_136_78, w_136_81, w_136_83, w_136_84, w_136_87, w_136_88, w_136_89, w_136_91, w_136_94, w_136_95, w_136_98, w_136_99, w_136_102, w_136_104, w_136_105, w_136_106, w_136_109, w_136_110, w_136_113, w_136_114, w_136_116, w_136_119, w_136_120, w_136_121, w_136_122, w_136_124, w_136_125, w_136_128, w_136_130, w_136_131, w_136_132, w_136_133, w_136_134, w_136_135, w_136_138, w_136_141, w_136_143, w_136_144, w_136_145, w_136_146, w_136_147, w_136_151, w_136_152, w_136_153, w_136_156, w_136_158, w_136_161, a0, a12, a24, a36, a48, a60, a72, a152, a232, a312, ic_clamp, inB_ic, e2, e3, e4, e5, true_and, sv_d, m15k, mf, ne_thr, app1, List.cons_append, List.nil_append]
  by_cases c : V 15 k = 0
  · rw [fe, if_pos c] at key
    simp only [c, not_true_eq_false, if_false]
    exact key
  · by_cases c2 : V 15 k = 1
    · rw [fe, if_neg c, if_pos c2] at key
      simp only [c, c2, not_true_eq_false, not_false_eq_true, if_false, if_true, show ((1 : Int32) = 0) = False by decide]
      exact key
    · rw [fe, if_neg c, if_neg c2] at key
      simp (disch := decide) only [c, c2, not_true_eq_false, not_false_eq_true, if_false, if_true, w_136_122]
      exact key
end
