/-! THE WORLD'S METHODS: taking in -/
section
variable {u : Nat × Nat} {L : Nat} {xs : Nat → Int32} {X : Nat → Nat → Int32} {Z : Nat → Nat → Int64} {K : List Value → AH → Prop} {w : Nat} {V : Nat → Nat → Int32}
def absI (x : Int32) : Int32 := if 0 ≤ x then x else 0 - x
def ranF (V : Nat → Nat → Int32) (k : Nat) : Int32 := if V 15 k = 0 then V 18 k else - absI (V 17 k - V 16 k)
theorem c_rank (hw : isWd w) {k : Nat} (hk : k < 80) : Call 15 [.ref (w + 14), .int (ic k)] (hW u L xs X Z w V) K ↔ K [.int (ranF V k)] (hW u L xs X Z w V) := by
  have e2 : (k < 80) = True := eq_true hk
  simp (disch := first | assumption | omega) only [en_15, w_15_0, w_15_1, w_15_4, w_15_5, w_15_6, w_15_9, w_15_10, w_15_13, w_15_14, w_15_15, w_15_18, w_15_19, w_15_22, w_15_23, w_15_24, w_15_25, w_15_28, w_15_29, w_15_30, w_15_31, w_15_34, w_15_35, ic_clamp, inB_ic, e2, true_and, ranF, absI]
  by_cases c : V 15 k = 0
  · simp only [c, not_true_eq_false, if_false, if_true]
  · simp only [c, not_false_eq_true, if_false, if_true]
def farF (V : Nat → Nat → Int32) (k : Nat) : Int32 := if V 15 k = 0 then 2 + absI (V 17 k - V 16 k) else if V 15 k = 1 then 1 else (absI (V 17 k - V 16 k) + 1) / 2
theorem c_fare (hw : isWd w) {k : Nat} (hk : k < 80) : Call 16 [.ref (w + 14), .int (ic k)] (hW u L xs X Z w V) K ↔ K [.int (farF V k)] (hW u L xs X Z w V) := by
  have e2 : (k < 80) = True := eq_true hk
  have e3 : ((2 : Int32) = 0) = False := by decide
  simp (disch := first | assumption | omega) only [en_16, w_16_0, w_16_1, w_16_4, w_16_5, w_16_6, w_16_7, w_16_10, w_16_11, w_16_12, w_16_13, w_16_16, w_16_17, w_16_18, w_16_21, w_16_22, w_16_23, w_16_26, w_16_27, w_16_28, w_16_29, w_16_30, w_16_31, w_16_34, w_16_35, w_16_36, w_16_37, w_16_40, w_16_41, w_16_44, w_16_45, w_16_46, w_16_47, w_16_48, w_16_49, ic_clamp, inB_ic, e2, e3, true_and, farF, absI, not_false_eq_true]
  by_cases c : V 15 k = 0
  · simp only [c, not_true_eq_false, if_false, if_true]
  · by_cases c2 : V 15 k = 1
    · simp only [c, c2, not_true_eq_false, not_false_eq_true, if_false, if_true, reduceIte, show ((1 : Int32) = 0) = False by decide]
    · simp (disch := assumption) only [c, c2, not_true_eq_false, not_false_eq_true, if_false, if_true, reduceIte, w_16_48 (show ¬ (2 : Int32) = 0 by decide), w_16_49]
def comB (V : Nat → Nat → Int32) (pl up per now : Int32) (k : Nat) : Bool := decide (V 19 k = 0 ∧ V 16 k = pl ∧ ¬ now < V 18 k ∧ b2i (decide (V 15 k = 0)) = per ∧ b2i (decide (pl < V 17 k)) = up)
def nxtS (V : Nat → Nat → Int32) (pl up per now : Int32) (k : Nat) (nx : Int32) : Int32 := if comB V pl up per now k = true ∧ (nx = -1 ∨ ranF V k < ranF V nx.toNatClampNeg) then ic k else nx
theorem s_nextAt (hw : isWd w) {pl up per now nx : Int32} {k : Nat} {l7 : Value} (hk : k < 80) : (WP 14 0 15 [.ref (w + 14), .int pl, .int up, .int per, .int now, .int nx, .int (ic k), l7] [] (hW u L xs X Z w V) K ↔ WP 14 0 94 [.ref (w + 14), .int pl, .int up, .int per, .int now, .int nx, .int (ic k), .int (b2i (comB V pl up per now k))] [] (hW u L xs X Z w V) K) := by
  have e2 : (k < 80) = True := eq_true hk
  simp (disch := first | assumption | omega) only [en_14, w_14_0, w_14_1, w_14_3, w_14_4, w_14_8, w_14_9, w_14_12, w_14_15, w_14_16, w_14_19, w_14_21, w_14_22, w_14_25, w_14_26, w_14_29, w_14_31, w_14_32, w_14_33, w_14_36, w_14_37, w_14_40, w_14_42, w_14_43, w_14_45, w_14_48, w_14_49, w_14_52, w_14_54, w_14_55, w_14_58, w_14_59, w_14_62, w_14_63, w_14_64, w_14_67, w_14_68, w_14_71, w_14_73, w_14_74, w_14_75, w_14_78, w_14_79, w_14_82, w_14_83, w_14_84, w_14_87, w_14_88, w_14_91, w_14_92, w_14_96, w_14_99, w_14_101, w_14_102, w_14_105, w_14_106, w_14_108, w_14_111, w_14_112, w_14_114, w_14_117, w_14_120, w_14_122, w_14_124, w_14_127, w_14_130, w_14_132, ic_clamp, inB_ic, e2, true_and, comB]
  repeat' split
  all_goals simp_all only [b2i, nle, Bool.true_eq_false, reduceCtorEq, Classical.not_not, eq_self, Bool.decide_eq_true, imp_self, Bool.not_eq_true, decide_not, decide_true, decide_false, not_true_eq_false, not_false_eq_true, or_true, true_or, or_false, false_or, and_true, true_and, false_and, and_false, if_true, if_false, Bool.false_eq_true, reduceIte, Bool.or_true, Bool.true_or, Bool.or_false, Bool.false_or, Bool.and_true, Bool.true_and, Bool.and_false, Bool.false_and, Bool.not_true, Bool.not_false, ne_eq, iff_self, or_self, and_self]
theorem l_nextAt (hw : isWd w) {pl up per now : Int32} {n : Nat} (hn : V 14 0 = ic n) (h80 : n ≤ 80) : ∀ d k nx l7, (nx = -1 ∨ ∃ j, nx = ic j ∧ j < 80) → k + d = n → (WP 14 0 6 [.ref (w + 14), .int pl, .int up, .int per, .int now, .int nx, .int (ic k), l7] [] (hW u L xs X Z w V) K ↔ K [.int (itr (nxtS V pl up per now) k d nx)] (hW u L xs X Z w V)) := by
  intro d
  induction d with
  | zero =>
    intro k nx l7 hx hk
    have e : (n ≤ k) = True := eq_true (by omega)
    rw [w_14_6]
    simp (disch := first | assumption | omega) only [en_14, w_14_0, w_14_1, w_14_3, w_14_4, w_14_8, w_14_9, w_14_12, w_14_16, w_14_19, w_14_21, w_14_22, w_14_25, w_14_26, w_14_29, w_14_31, w_14_32, w_14_33, w_14_36, w_14_37, w_14_40, w_14_42, w_14_43, w_14_45, w_14_48, w_14_49, w_14_52, w_14_54, w_14_55, w_14_58, w_14_59, w_14_62, w_14_63, w_14_64, w_14_67, w_14_68, w_14_71, w_14_73, w_14_74, w_14_75, w_14_78, w_14_79, w_14_82, w_14_83, w_14_84, w_14_87, w_14_88, w_14_91, w_14_92, w_14_94, w_14_96, w_14_99, w_14_101, w_14_102, w_14_105, w_14_106, w_14_108, w_14_111, w_14_112, w_14_114, w_14_117, w_14_120, w_14_122, w_14_124, w_14_127, w_14_130, w_14_132, hn, ic_le, e, if_true, itr]
  | succ d ih =>
    intro k nx l7 hx hk
    have e : (n ≤ k) = False := eq_false (by omega)
    have hk80 : k < 80 := by omega
    rw [w_14_6]
    simp (disch := first | assumption | omega) only [en_14, w_14_0, w_14_1, w_14_3, w_14_4, w_14_8, w_14_9, w_14_12, w_14_16, w_14_19, w_14_21, w_14_22, w_14_25, w_14_26, w_14_29, w_14_31, w_14_32, w_14_33, w_14_36, w_14_37, w_14_40, w_14_42, w_14_43, w_14_45, w_14_48, w_14_49, w_14_52, w_14_54, w_14_55, w_14_58, w_14_59, w_14_62, w_14_63, w_14_64, w_14_67, w_14_68, w_14_71, w_14_73, w_14_74, w_14_75, w_14_78, w_14_79, w_14_82, w_14_83, w_14_84, w_14_87, w_14_88, w_14_91, w_14_92, w_14_94, w_14_96, w_14_99, w_14_101, w_14_102, w_14_105, w_14_106, w_14_108, w_14_111, w_14_112, w_14_114, w_14_117, w_14_120, w_14_122, w_14_124, w_14_127, w_14_130, w_14_132, hn, ic_le, e, if_false]
    rw [s_nextAt hw hk80]
    have q1 := fun l7 => ih (k + 1) nx l7 hx (by omega)
    have q2 := fun l7 => ih (k + 1) (ic k) l7 (Or.inr ⟨k, rfl, hk80⟩) (by omega)
    unfold itr
    unfold nxtS at q1 q2 ⊢
    cases comB V pl up per now k with
    | false =>
      simp (disch := first | assumption | omega) only [en_14, w_14_0, w_14_1, w_14_3, w_14_4, w_14_8, w_14_9, w_14_12, w_14_16, w_14_19, w_14_21, w_14_22, w_14_25, w_14_26, w_14_29, w_14_31, w_14_32, w_14_33, w_14_36, w_14_37, w_14_40, w_14_42, w_14_43, w_14_45, w_14_48, w_14_49, w_14_52, w_14_54, w_14_55, w_14_58, w_14_59, w_14_62, w_14_63, w_14_64, w_14_67, w_14_68, w_14_71, w_14_73, w_14_74, w_14_75, w_14_78, w_14_79, w_14_82, w_14_83, w_14_84, w_14_87, w_14_88, w_14_91, w_14_92, w_14_94, w_14_96, w_14_99, w_14_101, w_14_102, w_14_105, w_14_106, w_14_108, w_14_111, w_14_112, w_14_114, w_14_117, w_14_120, w_14_122, w_14_124, w_14_127, w_14_130, w_14_132, b2i_f, if_true, ic_add1, q1, Bool.false_eq_true, false_and, if_false]
    | true =>
      rcases hx with rfl | ⟨j, rfl, hj⟩
      · simp (disch := first | assumption | omega) only [en_14, w_14_0, w_14_1, w_14_3, w_14_4, w_14_8, w_14_9, w_14_12, w_14_16, w_14_19, w_14_21, w_14_22, w_14_25, w_14_26, w_14_29, w_14_31, w_14_32, w_14_33, w_14_36, w_14_37, w_14_40, w_14_42, w_14_43, w_14_45, w_14_48, w_14_49, w_14_52, w_14_54, w_14_55, w_14_58, w_14_59, w_14_62, w_14_63, w_14_64, w_14_67, w_14_68, w_14_71, w_14_73, w_14_74, w_14_75, w_14_78, w_14_79, w_14_82, w_14_83, w_14_84, w_14_87, w_14_88, w_14_91, w_14_92, w_14_94, w_14_96, w_14_99, w_14_101, w_14_102, w_14_105, w_14_106, w_14_108, w_14_111, w_14_112, w_14_114, w_14_117, w_14_120, w_14_122, w_14_124, w_14_127, w_14_130, w_14_132, b2i_t, if_true, ic_add1, q2, Bool.false_eq_true, false_and, if_false, show ((1 : Int32) = 0) = False by decide, true_or, and_self]
      · have z : (ic j = -1) = False := eq_false (fun q => by have := ic_neg (n := j) (by omega); rw [q] at this; exact absurd this (by decide))
        simp (disch := first | assumption | omega) only [en_14, w_14_0, w_14_1, w_14_3, w_14_4, w_14_8, w_14_9, w_14_12, w_14_16, w_14_19, w_14_21, w_14_22, w_14_25, w_14_26, w_14_29, w_14_31, w_14_32, w_14_33, w_14_36, w_14_37, w_14_40, w_14_42, w_14_43, w_14_45, w_14_48, w_14_49, w_14_52, w_14_54, w_14_55, w_14_58, w_14_59, w_14_62, w_14_63, w_14_64, w_14_67, w_14_68, w_14_71, w_14_73, w_14_74, w_14_75, w_14_78, w_14_79, w_14_82, w_14_83, w_14_84, w_14_87, w_14_88, w_14_91, w_14_92, w_14_94, w_14_96, w_14_99, w_14_101, w_14_102, w_14_105, w_14_106, w_14_108, w_14_111, w_14_112, w_14_114, w_14_117, w_14_120, w_14_122, w_14_124, w_14_127, w_14_130, w_14_132, b2i_t, if_true, ic_add1, q1, q2, Bool.false_eq_true, false_and, if_false, show ((1 : Int32) = 0) = False by decide, true_or, and_self, z, c_rank, ne_thr, app1, true_and, false_or, ic_clamp, nle]
        by_cases q : ranF V k < ranF V j <;> simp only [q, if_true, if_false, not_true_eq_false, not_false_eq_true]
def nexF (V : Nat → Nat → Int32) (pl up per now : Int32) : Int32 := itr (nxtS V pl up per now) 0 (nlF V) (-1)
theorem c_nextAt (hw : isWd w) {pl up per now : Int32} {n : Nat} (hn : V 14 0 = ic n) (h80 : n ≤ 80) : Call 14 [.ref (w + 14), .int pl, .int up, .int per, .int now] (hW u L xs X Z w V) K ↔ K [.int (nexF V pl up per now)] (hW u L xs X Z w V) := by
  have e : nlF V = n := by unfold nlF; rw [hn, ic_clamp (by omega)]
  rw [en_14, w_14_0, w_14_1, w_14_3, w_14_4, ic_z, l_nextAt hw hn h80 n 0 _ _ (Or.inl rfl) (by omega)]
  unfold nexF
  rw [e]
theorem nex_rng {pl up per now : Int32} : ∀ d k nx, (nx = -1 ∨ ∃ j, nx = ic j ∧ j < k) → (itr (nxtS V pl up per now) k d nx = -1 ∨ ∃ j, itr (nxtS V pl up per now) k d nx = ic j ∧ j < k + d) := by
  intro d
  induction d with
  | zero => intro k nx h; exact h
  | succ d ih =>
    intro k nx h
    unfold itr
    have := ih (k + 1) (nxtS V pl up per now k nx) (by
      unfold nxtS
      split
      · exact Or.inr ⟨k, rfl, by omega⟩
      · rcases h with h | ⟨j, h, g⟩
        · exact Or.inl h
        · exact Or.inr ⟨j, h, by omega⟩)
    rcases this with h | ⟨j, h, g⟩
    · exact Or.inl h
    · exact Or.inr ⟨j, h, by omega⟩
theorem nexF_rng {pl up per now : Int32} : nexF V pl up per now = -1 ∨ ∃ j, nexF V pl up per now = ic j ∧ j < nlF V := by
  have := nex_rng (V := V) (pl := pl) (up := up) (per := per) (now := now) (nlF V) 0 (-1) (Or.inl rfl)
  rwa [Nat.zero_add] at this
/-- load k gets into run r -/
def getF (V : Nat → Nat → Int32) (r k : Nat) : Nat → Nat → Int32 := cntF (sv (sv (sv (sv V 19 k 1) 20 k (ic r)) 22 k (farF V k)) 11 r (V 11 r + farF V k)) r k 1
def tkF (r : Nat) (per : Int32) : Nat → (Nat → Nat → Int32) → (Nat → Nat → Int32)
  | 0, V => V
  | d + 1, V => if nexF V (V 7 r) (V 2 r) per (V 0 5) = -1 then V else tkF r per d (getF V r (nexF V (V 7 r) (V 2 r) per (V 0 5)).toNatClampNeg)
theorem getF_ne {r k a : Nat} (h1 : a ≠ 9) (h2 : a ≠ 10) (h3 : a ≠ 11) (h4 : a ≠ 19) (h5 : a ≠ 20) (h6 : a ≠ 22) : getF V r k a = V a := by
  unfold getF
  rw [cntF_ne h1 h2, sv_a h3, sv_a h6, sv_a h5, sv_a h4]
theorem tkF_ne {r a : Nat} {per : Int32} (h1 : a ≠ 9) (h2 : a ≠ 10) (h3 : a ≠ 11) (h4 : a ≠ 19) (h5 : a ≠ 20) (h6 : a ≠ 22) : ∀ d V, tkF r per d V a = V a := by
  intro d
  induction d with
  | zero => intro V; rfl
  | succ d ih =>
    intro V
    unfold tkF
    split
    · rfl
    · rw [ih, getF_ne h1 h2 h3 h4 h5 h6]
theorem l_takeIn (hw : isWd w) {r n : Nat} {per mo : Int32} (hr : r < 12) (h80 : n ≤ 80) : ∀ d V l5, d < 2147483648 → V 14 0 = ic n → (WP 67 0 3 [.ref (w + 0), .int (ic r), .int per, .int mo, .int (ic d), l5] [] (hW u L xs X Z w V) K ↔ K [] (hW u L xs X Z w (tkF r per d V))) := by
  have e1 : (r < 12) = True := eq_true hr
  intro d
  induction d with
  | zero =>
    intro V l5 hd hn
    rw [w_67_3]
    simp (disch := first | assumption | omega) only [en_67, w_67_0, w_67_1, w_67_5, w_67_9, w_67_12, w_67_13, w_67_16, w_67_19, w_67_20, w_67_21, w_67_22, w_67_25, w_67_28, w_67_29, w_67_30, w_67_31, w_67_32, w_67_35, w_67_38, w_67_40, w_67_42, w_67_43, w_67_46, w_67_47, w_67_48, w_67_51, w_67_54, w_67_56, w_67_57, w_67_58, w_67_59, w_67_62, w_67_65, w_67_67, w_67_68, w_67_69, w_67_70, w_67_73, w_67_76, w_67_78, w_67_79, w_67_82, w_67_84, w_67_87, w_67_88, w_67_89, w_67_92, w_67_95, w_67_96, w_67_97, w_67_98, w_67_99, w_67_102, w_67_105, w_67_107, w_67_108, w_67_109, w_67_110, w_67_111, w_67_112, w_67_114, w_67_115, w_67_118, w_67_121, w_67_124, ic_z, ic_le, Nat.le_refl, if_true, tkF]
  | succ d ih =>
    intro V l5 hd hn
    have e : (d + 1 ≤ 0) = False := eq_false (by omega)
    have en : nlF V = n := by unfold nlF; rw [hn, ic_clamp (by omega)]
    rw [w_67_3]
    simp (disch := first | assumption | omega) only [en_67, w_67_0, w_67_1, w_67_5, w_67_8, w_67_9, w_67_12, w_67_13, w_67_16, w_67_19, w_67_20, w_67_21, w_67_22, w_67_25, w_67_28, w_67_29, w_67_30, w_67_31, w_67_32, w_67_35, w_67_38, w_67_42, w_67_43, w_67_46, w_67_47, w_67_48, w_67_51, w_67_54, w_67_56, w_67_57, w_67_58, w_67_59, w_67_62, w_67_65, w_67_67, w_67_68, w_67_69, w_67_70, w_67_73, w_67_76, w_67_78, w_67_79, w_67_82, w_67_84, w_67_87, w_67_88, w_67_89, w_67_92, w_67_95, w_67_96, w_67_97, w_67_98, w_67_99, w_67_102, w_67_105, w_67_107, w_67_108, w_67_109, w_67_110, w_67_111, w_67_112, w_67_114, w_67_115, w_67_118, w_67_121, w_67_124, ic_z, ic_le, if_false, e, ic_clamp, inB_ic, e1, true_and, c_nextAt hw hn h80, ne_thr, app1]
    unfold tkF
    rcases nexF_rng (V := V) (pl := V 7 r) (up := V 2 r) (per := per) (now := V 0 5) with q | ⟨j, q, hj⟩
    · rw [q]
      simp only [en_67, w_67_0, w_67_1, w_67_5, w_67_8, w_67_9, w_67_12, w_67_13, w_67_16, w_67_19, w_67_20, w_67_21, w_67_22, w_67_25, w_67_28, w_67_29, w_67_30, w_67_31, w_67_32, w_67_35, w_67_38, w_67_40, w_67_42, w_67_43, w_67_46, w_67_47, w_67_48, w_67_51, w_67_54, w_67_56, w_67_57, w_67_58, w_67_59, w_67_62, w_67_65, w_67_67, w_67_68, w_67_69, w_67_70, w_67_73, w_67_76, w_67_78, w_67_79, w_67_82, w_67_84, w_67_87, w_67_88, w_67_89, w_67_92, w_67_95, w_67_96, w_67_97, w_67_98, w_67_99, w_67_102, w_67_105, w_67_107, w_67_108, w_67_109, w_67_110, w_67_111, w_67_112, w_67_114, w_67_115, w_67_118, w_67_121, w_67_124, if_true, not_true_eq_false, if_false]
    · have z : (ic j = -1) = False := eq_false (fun q => by have := ic_neg (n := j) (by omega); rw [q] at this; exact absurd this (by decide))
      have hj80 : j < 80 := by omega
      have e2 : (j < 80) = True := eq_true hj80
      have q3 : farF (sv (sv V 19 j 1) 20 j (ic r)) j = farF V j := by simp (disch := omega) only [farF, sv_a]
      rw [q]
      simp (disch := first | assumption | omega) only [en_67, w_67_0, w_67_1, w_67_5, w_67_8, w_67_9, w_67_12, w_67_13, w_67_16, w_67_19, w_67_20, w_67_21, w_67_22, w_67_25, w_67_28, w_67_29, w_67_30, w_67_31, w_67_32, w_67_35, w_67_38, w_67_40, w_67_42, w_67_43, w_67_46, w_67_47, w_67_48, w_67_51, w_67_54, w_67_56, w_67_57, w_67_58, w_67_59, w_67_62, w_67_65, w_67_67, w_67_68, w_67_69, w_67_70, w_67_73, w_67_76, w_67_78, w_67_79, w_67_82, w_67_84, w_67_87, w_67_88, w_67_89, w_67_92, w_67_95, w_67_96, w_67_97, w_67_98, w_67_99, w_67_102, w_67_105, w_67_107, w_67_108, w_67_109, w_67_110, w_67_111, w_67_112, w_67_114, w_67_115, w_67_118, w_67_121, w_67_124, z, not_false_eq_true, if_true, if_false, ic_clamp, inB_ic, e1, e2, true_and, sv_d, c_fare, c_countIn, ne_thr, ne_thr0, app0, app1, sv_a, sv_s, q3, ic_subn]
      have g := ih (getF V r j) (.int (ic j)) (by omega) (by rw [getF_ne (by decide) (by decide) (by decide) (by decide) (by decide) (by decide)]; exact hn)
      unfold getF at g ⊢
      exact g
theorem c_takeInUpTo (hw : isWd w) {r n : Nat} {per mo : Int32} (hr : r < 12) (h80 : n ≤ 80) (hn : V 14 0 = ic n) : Call 67 [.ref (w + 0), .int (ic r), .int per, .int mo] (hW u L xs X Z w V) K ↔ K [] (hW u L xs X Z w (tkF r per mo.toNatClampNeg V)) := by
  rw [en_67, w_67_0, w_67_1]
  by_cases h : mo < 0
  · have e : mo.toNatClampNeg = 0 := by
      rw [Int32.lt_iff_toInt_lt] at h
      have e : (0 : Int32).toInt = 0 := rfl
      have k : mo.toNatClampNeg = mo.toInt.toNat := rfl
      omega
    have e2 : mo ≤ 0 := by rw [nle]; exact Int32.lt_asymm h
    rw [e, w_67_3]
    simp (disch := first | assumption | omega) only [en_67, w_67_0, w_67_1, w_67_5, w_67_9, w_67_12, w_67_13, w_67_16, w_67_19, w_67_20, w_67_21, w_67_22, w_67_25, w_67_28, w_67_29, w_67_30, w_67_31, w_67_32, w_67_35, w_67_38, w_67_40, w_67_42, w_67_43, w_67_46, w_67_47, w_67_48, w_67_51, w_67_54, w_67_56, w_67_57, w_67_58, w_67_59, w_67_62, w_67_65, w_67_67, w_67_68, w_67_69, w_67_70, w_67_73, w_67_76, w_67_78, w_67_79, w_67_82, w_67_84, w_67_87, w_67_88, w_67_89, w_67_92, w_67_95, w_67_96, w_67_97, w_67_98, w_67_99, w_67_102, w_67_105, w_67_107, w_67_108, w_67_109, w_67_110, w_67_111, w_67_112, w_67_114, w_67_115, w_67_118, w_67_121, w_67_124, e2, if_true, tkF]
  · have q := ic_of h
    have g := l_takeIn (u := u) (L := L) (xs := xs) (X := X) (Z := Z) (K := K) hw (per := per) (mo := mo) hr h80 mo.toNatClampNeg V poi q.2 hn
    rw [← q.1] at g
    exact g
/-- run r takes in -/
def takF (V : Nat → Nat → Int32) (r : Nat) : Nat → Nat → Int32 := tkF r 0 ((tkF r 1 (V 3 r - V 9 r).toNatClampNeg V) 4 r - (tkF r 1 (V 3 r - V 9 r).toNatClampNeg V) 10 r).toNatClampNeg (tkF r 1 (V 3 r - V 9 r).toNatClampNeg V)
theorem c_takeIn (hw : isWd w) {r n : Nat} (hr : r < 12) (h80 : n ≤ 80) (hn : V 14 0 = ic n) : Call 66 [.ref (w + 0), .int (ic r)] (hW u L xs X Z w V) K ↔ K [] (hW u L xs X Z w (takF V r)) := by
  have e1 : (r < 12) = True := eq_true hr
  have g : (tkF r 1 (V 3 r - V 9 r).toNatClampNeg V) 14 0 = ic n := by rw [tkF_ne (by decide) (by decide) (by decide) (by decide) (by decide) (by decide)]; exact hn
  simp (disch := first | assumption | omega) only [en_66, w_66_0, w_66_1, w_66_2, w_66_3, w_66_4, w_66_7, w_66_10, w_66_11, w_66_12, w_66_13, w_66_16, w_66_19, w_66_20, w_66_21, w_66_22, w_66_25, w_66_26, w_66_27, w_66_28, w_66_29, w_66_32, w_66_35, w_66_36, w_66_37, w_66_38, w_66_41, w_66_44, w_66_45, w_66_46, w_66_47, w_66_50, ic_clamp, inB_ic, e1, true_and, c_takeInUpTo hw hr h80 hn, c_takeInUpTo hw hr h80 g, ne_thr0, app0, takF]
theorem takF_ne {r a : Nat} (h1 : a ≠ 9) (h2 : a ≠ 10) (h3 : a ≠ 11) (h4 : a ≠ 19) (h5 : a ≠ 20) (h6 : a ≠ 22) : takF V r a = V a := by
  unfold takF
  rw [tkF_ne h1 h2 h3 h4 h5 h6, tkF_ne h1 h2 h3 h4 h5 h6]
end
