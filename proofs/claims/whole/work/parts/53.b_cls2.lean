/-! BEST, OF THE CLASS: as a whole -/
section
variable {u : Nat × Nat} {L : Nat} {xs : Nat → Int32} {X : Nat → Nat → Int32} {Z : Nat → Nat → Int64} {K : List Value → AH → Prop} {V W : Nat → Nat → Int32}
def ahB (V : Nat → Nat → Int32) (r : Int32) : Bool := decide (¬ r < 0 ∧ ¬ V 1 0 ≤ r ∧ V 6 r.toNatClampNeg = 0)
theorem ah_N (ho : VOK V) {r : Int32} (h : ¬ r < 0) (h2 : ¬ V 1 0 ≤ r) : ∃ n, r = ic n ∧ n < nrN V := by
  obtain ⟨q1, q2⟩ := ic_of h
  have h12 := ho.2.1
  rw [ho.1, q1, ic_le (by omega) q2] at h2
  exact ⟨_, q1, by omega⟩
theorem c_isAhead (ho : VOK (wz X 25)) {r : Int32} : Call 2 [.ref 26, .int r] (hX u L xs X Z) K ↔ K [.int (b2i (ahB (wz X 25) r))] (hX u L xs X Z) := by
  have w25 : isWd 25 := Or.inl rfl
  rw [hX_W (w := 25), show (26 : Nat) = 25 + 1 from rfl]
  unfold ahB
  by_cases h1 : r < 0
  · simp (disch := first | assumption | omega) only [en_2, w_2_0, w_2_1, w_2_4, w_2_5, w_2_6, w_2_9, w_2_12, w_2_13, w_2_16, w_2_17, w_2_18, w_2_21, w_2_22, w_2_25, w_2_26, h1, if_true, zb0, true_and, not_true_eq_false, false_and, decide_false, b2i_f]
  · by_cases h2 : wz X 25 1 0 ≤ r
    · simp (disch := first | assumption | omega) only [en_2, w_2_0, w_2_1, w_2_4, w_2_5, w_2_6, w_2_9, w_2_12, w_2_13, w_2_16, w_2_17, w_2_18, w_2_21, w_2_22, w_2_25, w_2_26, h1, h2, if_false, if_true, zb0, true_and, not_true_eq_false, false_and, and_false, decide_false, b2i_f]
    · obtain ⟨n, rfl, hn⟩ := ah_N ho h1 h2
      have h12 := ho.2.1
      have e : (n < 12) = True := eq_true (by omega)
      simp (disch := first | assumption | omega) only [en_2, w_2_0, w_2_1, w_2_4, w_2_5, w_2_6, w_2_9, w_2_12, w_2_13, w_2_16, w_2_17, w_2_18, w_2_21, w_2_22, w_2_25, w_2_26, h1, h2, if_false, inB_ic, ic_clamp, e, zb0, zb1, true_and, not_false_eq_true]
      by_cases h3 : wz X 25 6 n = 0 <;> simp [h3, b2i]
def moB (V : Nat → Nat → Int32) (m : Int32) : Bool := decide (V 0 5 < m ∧ ¬ 400 < m)
theorem c_maySetOut {m : Int32} : Call 91 [.ref 0, .int m] (hX u L xs X Z) K ↔ K [.int (b2i (moB (wz X 25) m))] (hX u L xs X Z) := by
  have e : wz X 25 0 5 = X 25 5 := by rw [wz_at (by decide)]
  unfold moB
  rw [e]
  simp only [en_91, w_91_0, w_91_1, w_91_2, w_91_5, w_91_8, w_91_11, w_91_12, w_91_15, w_91_18, w_91_19, w_91_22, w_91_23, zb0, zb1, true_and]
  repeat' split
  all_goals simp_all only [b2i, nle, Bool.true_eq_false, reduceCtorEq, Classical.not_not, eq_self, Bool.decide_eq_true, imp_self, Bool.not_eq_true, decide_not, decide_true, decide_false, not_true_eq_false, not_false_eq_true, or_true, true_or, or_false, false_or, and_true, true_and, false_and, and_false, if_true, if_false, Bool.false_eq_true, reduceIte, Bool.or_true, Bool.true_or, Bool.or_false, Bool.false_or, Bool.and_true, Bool.true_and, Bool.and_false, Bool.false_and, Bool.not_true, Bool.not_false, ne_eq, iff_self, or_self, and_self]
def bsB (V : Nat → Nat → Int32) (r lo hi : Int32) : Bool := ahB V r && moB V lo && moB V hi && decide (¬ hi < lo ∧ hi - lo < 5)
theorem c_best_no {r lo hi : Int32} (ho : VOK (wz X 25)) (h : bsB (wz X 25) r lo hi = false) : Call 84 [.ref 0, .int r, .int lo, .int hi] (hX u L xs X Z) K ↔ K [.int (-1)] (hX u L xs X Z) := by
  unfold bsB at h
  simp only [en_84, w_84_0, w_84_1, w_84_4, w_84_7, w_84_8, w_84_11, w_84_14, w_84_15, w_84_16, w_84_19, w_84_22, w_84_23, w_84_24, w_84_27, w_84_30, w_84_31, w_84_32, w_84_33, w_84_34, w_84_37, w_84_38, w_84_39, w_84_40, w_84_41, w_84_44, w_84_45, w_84_47, w_84_49, w_84_52, w_84_54, w_84_55, w_84_58, w_84_59, w_84_62, w_84_65, w_84_66, w_84_68, w_84_70, w_84_71, w_84_74, w_84_75, w_84_78, w_84_81, w_84_84, w_84_85, w_84_87, w_84_88, w_84_89, w_84_92, w_84_94, w_84_95, w_84_96, w_84_99, w_84_100, w_84_103, w_84_104, w_84_107, w_84_110, w_84_111, w_84_114, w_84_115, w_84_117, w_84_120, w_84_122, w_84_124, w_84_125, w_84_128, w_84_130, w_84_132, w_84_135, w_84_137, w_84_139, w_84_141, w_84_143, w_84_146, w_84_149, w_84_151, w_84_152, w_84_155, w_84_156, w_84_158, w_84_161, w_84_163, c_isAhead ho, c_maySetOut, ne_thr, app1, true_and, b2i_z, nle]
  by_cases e1 : ahB (wz X 25) r = true
  · by_cases e2 : moB (wz X 25) lo = true
    · by_cases e3 : moB (wz X 25) hi = true
      · rw [e1, e2, e3] at h
        simp only [Bool.true_and, decide_eq_false_iff_not] at h
        by_cases c : hi < lo
        · simp only [e1, e2, e3, c, if_true, Bool.true_eq_false, if_false, not_false_eq_true]
        · have c2 : ¬ hi - lo < 5 := fun q => h ⟨c, q⟩
          simp only [e1, e2, e3, c, c2, if_true, Bool.true_eq_false, if_false, not_false_eq_true]
      · simp only [e1, e2, show moB (wz X 25) hi = false by simpa using e3, if_true, Bool.true_eq_false, if_false, not_true_eq_false]
    · simp only [e1, show moB (wz X 25) lo = false by simpa using e2, if_true, Bool.true_eq_false, if_false]
  · simp only [show ahB (wz X 25) r = false by simpa using e1, if_true]
theorem bs_N (ho : VOK V) {nw : Nat} (hn : V 0 5 = ic nw) (hn6 : nw ≤ 600) {r lo hi : Int32} (h : bsB V r lo hi = true) : ∃ rn l h', r = ic rn ∧ lo = ic l ∧ hi = ic h' ∧ rn < nrN V ∧ V 6 rn = 0 ∧ nw < l ∧ l ≤ h' ∧ h' ≤ 400 ∧ h' < l + 5 := by
  unfold bsB at h
  simp only [Bool.and_eq_true, ahB, moB, decide_eq_true_eq] at h
  obtain ⟨⟨⟨⟨a1, a2, a3⟩, b1, b2⟩, c1, c2⟩, d1, d2⟩ := h
  obtain ⟨rn, rfl, hrn⟩ := ah_N ho a1 a2
  have h12 := ho.2.1
  rw [hn] at b1 c1
  have pos : ∀ x : Int32, ic nw < x → ¬ 400 < x → ∃ n, x = ic n ∧ nw < n ∧ n ≤ 400 := by
    intro x hx hx2
    have h0 : ¬ x < 0 := by
      intro q
      have := Int32.lt_trans hx q
      rw [ic_neg (by omega)] at this
      exact this
    obtain ⟨q1, q2⟩ := ic_of h0
    rw [q1, ic_lt (by omega) q2] at hx
    rw [q1, show (400 : Int32) = ic 400 from rfl, ic_lt (by omega) q2] at hx2
    exact ⟨_, q1, hx, by omega⟩
  obtain ⟨l, rfl, l1, l2⟩ := pos lo b1 b2
  obtain ⟨h', rfl, k1, k2⟩ := pos hi c1 c2
  rw [ic_lt (by omega) (by omega)] at d1
  have e : ic h' - ic l = ic (h' - l) := by
    have : ic h' = ic (h' - l) + ic l := by rw [ic_add]; congr 1; omega
    rw [this]
    exact Int32.add_sub_cancel _ _
  rw [e, show (5 : Int32) = ic 5 from rfl, ic_lt (by omega) (by omega)] at d2
  rw [ic_clamp (by omega)] at a3
  exact ⟨rn, l, h', rfl, rfl, rfl, hrn, a3, l1, by omega, k2, by omega⟩
theorem bst_rng {r : Nat} {T : Nat → Nat → Nat → Int32} : ∀ d m st, (∀ b le, st = some (b, le) → b ≤ 400 ∧ le ≤ 600) → m + d ≤ 401 → ∀ b le, itr (bstF X r T) m d st = some (b, le) → b ≤ 400 ∧ le ≤ 600 := by
  intro d
  induction d with
  | zero => intro m st h _ b le e; exact h b le e
  | succ d ih =>
    intro m st h hm
    refine ih (m + 1) (bstF X r T m st) (fun b le e => ?_) (by omega)
    unfold bstF at e
    cases hf : fiN X r (601 - m) (T m) with
    | none => rw [hf] at e; exact h b le e
    | some i =>
      have := fi_pos _ _ _ hf
      rw [hf] at e
      cases st with
      | none => cases e; omega
      | some q =>
        obtain ⟨b', le'⟩ := q
        have e' : (if i - 1 < le' then some (m, i - 1) else some (b', le')) = some (b, le) := e
        split at e'
        · cases e'; omega
        · exact h b le e'
set_option maxRecDepth 8000 in
theorem c_best {rn l h nw : Nat} (hx : RdOK X) (hw : WI (npN X) (wz X 25)) (hb : VB (wz X 25)) (hn : wz X 25 0 5 = ic nw) (hn6 : nw ≤ 600) (hrn : rn < nrN (wz X 25)) (h6 : wz X 25 6 rn = 0) (h1 : nw < l) (h2 : l ≤ h) (h3 : h ≤ 400) (hyes : bsB (wz X 25) (ic rn) (ic l) (ic h) = true) (hK : ∀ X2 T Ve, EqR Ve (wz X 25) → (∀ k, l ≤ k → k < l + (h + 1 - l) → EqR (T k) (tcs X (k - 1 - nw) (T5 rn (ic k) Ve))) → Fo X X2 → K [.int (bmI (itr (bstF X rn T) l (h + 1 - l) none))] (hX u L xs (match itr (bstF X rn T) l (h + 1 - l) none with | none => X2 | some (_, le) => sv X2 0 7 (ic le)) Z)) : Call 84 [.ref 0, .int (ic rn), .int (ic l), .int (ic h)] (hX u L xs X Z) K := by
  unfold bsB at hyes
  simp only [Bool.and_eq_true, decide_eq_true_eq] at hyes
  obtain ⟨⟨⟨y1, y2⟩, y3⟩, y4, y5⟩ := hyes
  have h12 := hw.1.2.1
  simp (disch := first | assumption | omega) only [en_84, w_84_0, w_84_1, w_84_4, w_84_7, w_84_8, w_84_11, w_84_14, w_84_15, w_84_16, w_84_19, w_84_22, w_84_23, w_84_24, w_84_27, w_84_30, w_84_31, w_84_32, w_84_33, w_84_34, w_84_37, w_84_38, w_84_39, w_84_40, w_84_41, w_84_44, w_84_45, w_84_46, w_84_47, w_84_49, w_84_52, w_84_55, w_84_58, w_84_59, w_84_62, w_84_65, w_84_66, w_84_70, w_84_71, w_84_75, w_84_78, w_84_81, w_84_84, w_84_85, w_84_87, w_84_88, w_84_89, w_84_92, w_84_94, w_84_95, w_84_96, w_84_99, w_84_100, w_84_103, w_84_104, w_84_107, w_84_110, w_84_111, w_84_114, w_84_115, w_84_117, w_84_120, w_84_122, w_84_124, w_84_125, w_84_128, w_84_130, w_84_132, w_84_135, w_84_137, w_84_139, w_84_141, w_84_143, w_84_146, w_84_151, w_84_152, w_84_155, w_84_156, w_84_158, w_84_161, w_84_163, c_isAhead hw.1, c_maySetOut, ne_thr, app1, true_and, y1, y2, y3, y4, y5, b2i_t, show ((1 : Int32) = 0) = False by decide, if_false, not_false_eq_true, if_true]
  rw [w_84_54, w_84_55, w_84_58, w_84_59, w_84_62]
  refine c_copy hb (fun X1 f1 q1 => ?_)
  simp only [ne_thr0, app0, true_and]
  rw [w_84_65, w_84_66]
  have fo1 : Fo X X1 := fun a ha => f1 a (by omega)
  have lo1 := Fo_Lo fo1
  have hv1 := EqR_WI q1 hw
  refine l_best (r := rn) (nw := nw) (lo := l) (hi := h) hx hv1 (fun i hi => by rw [EqR_f q1 (by decide) (by decide) hi]; exact hb i hi) (fun a ha => wz_hi ha) (by omega) (by rw [EqR_f q1 (by decide) (by decide) (by omega)]; exact h6) (by rw [q1.1]; exact hn) h1 h3 (h + 1 - l) l X1 0 none _ (by omega) (Nat.le_refl _) fo1 rfl (by omega) (by decide) (fun X2 T l6 l7 t1 t2 => ?_)
  have fin := hK X2 T (wz X1 49) q1 t1 t2
  cases hst : itr (bstF X rn T) l (h + 1 - l) none with
  | none =>
    rw [hst] at fin
    show WP 84 0 149 [.ref 0, .int (ic rn), .int (ic l), .int (ic h), .int (-1), .int (ic 600), l6, l7] [] (hX u L xs X2 Z) K
    simp only [en_84, w_84_0, w_84_1, w_84_4, w_84_7, w_84_8, w_84_11, w_84_14, w_84_15, w_84_16, w_84_19, w_84_22, w_84_23, w_84_24, w_84_27, w_84_30, w_84_31, w_84_32, w_84_33, w_84_34, w_84_37, w_84_38, w_84_39, w_84_40, w_84_41, w_84_44, w_84_45, w_84_46, w_84_47, w_84_49, w_84_52, w_84_54, w_84_55, w_84_58, w_84_59, w_84_62, w_84_65, w_84_66, w_84_68, w_84_70, w_84_71, w_84_74, w_84_75, w_84_78, w_84_81, w_84_84, w_84_85, w_84_87, w_84_88, w_84_89, w_84_92, w_84_94, w_84_95, w_84_96, w_84_99, w_84_100, w_84_103, w_84_104, w_84_107, w_84_110, w_84_111, w_84_114, w_84_115, w_84_117, w_84_120, w_84_122, w_84_124, w_84_125, w_84_128, w_84_130, w_84_132, w_84_135, w_84_137, w_84_139, w_84_141, w_84_143, w_84_146, w_84_149, w_84_151, w_84_152, w_84_156, w_84_158, w_84_161, w_84_163, if_true]
    exact fin
  | some q =>
    obtain ⟨b, le⟩ := q
    rw [hst] at fin
    have hr := bst_rng (X := X) (r := rn) (T := T) (h + 1 - l) l none (fun b le e => by cases e) (by omega) b le hst
    have z : (ic b = -1) = False := eq_false (fun q => by have := ic_neg (n := b) (by omega); rw [q] at this; exact absurd this (by decide))
    show WP 84 0 149 [.ref 0, .int (ic rn), .int (ic l), .int (ic h), .int (ic b), .int (ic le), l6, l7] [] (hX u L xs X2 Z) K
    simp only [en_84, w_84_0, w_84_1, w_84_4, w_84_7, w_84_8, w_84_11, w_84_14, w_84_15, w_84_16, w_84_19, w_84_22, w_84_23, w_84_24, w_84_27, w_84_30, w_84_31, w_84_32, w_84_33, w_84_34, w_84_37, w_84_38, w_84_39, w_84_40, w_84_41, w_84_44, w_84_45, w_84_46, w_84_47, w_84_49, w_84_52, w_84_54, w_84_55, w_84_58, w_84_59, w_84_62, w_84_65, w_84_66, w_84_68, w_84_70, w_84_71, w_84_74, w_84_75, w_84_78, w_84_81, w_84_84, w_84_85, w_84_87, w_84_88, w_84_89, w_84_92, w_84_94, w_84_95, w_84_96, w_84_99, w_84_100, w_84_103, w_84_104, w_84_107, w_84_110, w_84_111, w_84_114, w_84_115, w_84_117, w_84_120, w_84_122, w_84_124, w_84_125, w_84_128, w_84_130, w_84_132, w_84_135, w_84_137, w_84_139, w_84_141, w_84_143, w_84_146, w_84_149, w_84_151, w_84_152, w_84_155, w_84_156, w_84_158, w_84_161, w_84_163, z, if_false, sv_d]
    exact fin
end
