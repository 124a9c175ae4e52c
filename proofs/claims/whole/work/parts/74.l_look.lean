/-! LOOK AND LIES -/
section
variable {u : Nat × Nat} {L : Nat} {xs : Nat → Int32} {X X' : Nat → Nat → Int32} {Z : Nat → Nat → Int64} {K : List Value → AH → Prop} {V W : Nat → Nat → Int32}
def lkV (V : Nat → Nat → Int32) (n : Nat) (q : Int32) : Int32 := if q = 0 then V 6 n else if q = 1 then V 7 n else if q = 2 then V 8 n else if q = 3 then V 9 n else if q = 4 then V 10 n else if q = 5 then V 11 n else if q = 6 then V 12 n else if q = 7 then V 5 n else if q = 8 then (if V 2 n = 0 then 0 else 1) else V 13 n
def lkB (V : Nat → Nat → Int32) (r q : Int32) : Prop := (¬ r < 0 ∧ ¬ V 1 0 ≤ r) ∧ (¬ q < 0 ∧ ¬ 9 < q)
def liV (V : Nat → Nat → Int32) (n : Nat) (q : Int32) : Int32 := if q = 0 then V 19 n else if q = 1 then V 20 n else if q = 2 then V 21 n else V 22 n
def liB (V : Nat → Nat → Int32) (r q : Int32) : Prop := (¬ r < 0 ∧ ¬ V 14 0 ≤ r) ∧ (¬ q < 0 ∧ ¬ 3 < q)
theorem t09 {q : Int32} (h : ¬ q < 0) (g : ¬ 9 < q) : q = 0 ∨ q = 1 ∨ q = 2 ∨ q = 3 ∨ q = 4 ∨ q = 5 ∨ q = 6 ∨ q = 7 ∨ q = 8 ∨ q = 9 := by
  simp only [Int32.lt_iff_toInt_lt, ← Int32.toInt_inj] at *
  simp at *
  omega
theorem t03 {q : Int32} (h : ¬ q < 0) (g : ¬ 3 < q) : q = 0 ∨ q = 1 ∨ q = 2 ∨ q = 3 := by
  simp only [Int32.lt_iff_toInt_lt, ← Int32.toInt_inj] at *
  simp at *
  omega
theorem o09 {q : Int32} (h : ¬ (¬ q < 0 ∧ ¬ 9 < q)) : q.toInt < 0 ∨ 9 < q.toInt := by
  simp only [Int32.lt_iff_toInt_lt] at *
  simp at *
  omega
theorem o03 {q : Int32} (h : ¬ (¬ q < 0 ∧ ¬ 3 < q)) : q.toInt < 0 ∨ 3 < q.toInt := by
  simp only [Int32.lt_iff_toInt_lt] at *
  simp at *
  omega
/-- r stands before n -/
theorem bel {n : Nat} {v r : Int32} (hv : v = ic n) (hn : n ≤ 80) (h : ¬ r < 0 ∧ ¬ v ≤ r) : ∃ k, r = ic k ∧ k < n := by
  obtain ⟨e, l⟩ := ic_of h.1
  refine ⟨_, e, ?_⟩
  have h2 := h.2
  rw [hv, e, ic_le (by omega) l] at h2
  omega
theorem bel1 {n : Nat} {v r : Int32} (hv : v = ic n) (hn : n ≤ 80) : (¬ r < 0 ∧ ¬ v - 1 < r) = (¬ r < 0 ∧ ¬ v ≤ r) := by
  subst hv
  rw [eq_iff_iff]
  by_cases h0 : r < 0
  · simp [h0]
  · obtain ⟨e, l⟩ := ic_of h0
    rw [e]
    cases n with
    | zero =>
      have a1 : (ic 0 - 1 < ic r.toNatClampNeg) = True := by
        rw [eq_iff_iff, Int32.lt_iff_toInt_lt, ic_toInt l, show (ic 0 - 1).toInt = -1 by decide]
        simp
        omega
      have a2 : (ic 0 ≤ ic r.toNatClampNeg) = True := by rw [ic_le (by omega) l]; simp
      rw [a1, a2]
    | succ n =>
      have a1 : ic (n + 1) - 1 = ic n := by rw [← ic_add1]; exact Int32.add_sub_cancel _ _
      rw [a1, ic_lt (by omega) l, ic_le (by omega) l, show (n < r.toNatClampNeg) = (n + 1 ≤ r.toNatClampNeg) from rfl]
theorem c_look {n : Nat} {q : Int32} (ho : VOK (wz X 25)) (hn : n < nrN (wz X 25)) (hq : ¬ q < 0 ∧ ¬ 9 < q) : Call 87 [.ref 0, .int (ic n), .int q] (hX u L xs X Z) K ↔ K [.int (lkV (wz X 25) n q)] (hX u L xs X Z) := by
  obtain ⟨o1, o2, _⟩ := ho
  have o1' : X 26 0 = ic (nrN (wz X 25)) := o1
  have e1 : (¬ ic n < 0 ∧ ¬ X 26 0 - 1 < ic n) = True := by
    rw [bel1 o1' (by omega), o1', ic_neg (by omega), ic_le (by omega) (by omega)]
    simp
    omega
  have en : (n < 12) = True := eq_true (by omega)
  unfold lkV
  have go : WP 87 0 33 [.ref 0, .int (ic n), .int q, .ref 26] [.int q] (hX u L xs X Z) K ↔ K [.int (lkV (wz X 25) n q)] (hX u L xs X Z) := by
    unfold lkV
    rcases t09 hq.1 hq.2 with h | h | h | h | h | h | h | h | h | h <;> subst h
    · rw [w_87_33_c0]; simp (disch := first | assumption | omega) only [en_87, w_87_1, w_87_4, w_87_7, w_87_8, w_87_9, w_87_10, w_87_11, w_87_14, w_87_15, w_87_16, w_87_19, w_87_22, w_87_32, w_87_88, w_87_89, w_87_92, w_87_93, w_87_94, w_87_95, w_87_96, w_87_99, w_87_100, w_87_101, w_87_102, w_87_103, w_87_106, w_87_107, w_87_108, w_87_109, w_87_110, w_87_113, w_87_114, w_87_115, w_87_116, w_87_117, w_87_120, w_87_121, w_87_122, w_87_123, w_87_124, w_87_127, w_87_128, w_87_129, w_87_130, w_87_131, w_87_134, w_87_135, w_87_136, w_87_137, w_87_138, w_87_141, w_87_142, w_87_143, w_87_144, w_87_145, w_87_148, w_87_149, w_87_150, w_87_153, w_87_154, w_87_157, w_87_158, w_87_159, w_87_160, w_87_163, w_87_164, w_87_165, w_87_166, inB_ic, ic_clamp, en, true_and]; exact Iff.rfl
    · rw [w_87_33_c1]; simp (disch := first | assumption | omega) only [en_87, w_87_1, w_87_4, w_87_7, w_87_8, w_87_9, w_87_10, w_87_11, w_87_14, w_87_15, w_87_16, w_87_19, w_87_22, w_87_32, w_87_88, w_87_89, w_87_92, w_87_93, w_87_94, w_87_95, w_87_96, w_87_99, w_87_100, w_87_101, w_87_102, w_87_103, w_87_106, w_87_107, w_87_108, w_87_109, w_87_110, w_87_113, w_87_114, w_87_115, w_87_116, w_87_117, w_87_120, w_87_121, w_87_122, w_87_123, w_87_124, w_87_127, w_87_128, w_87_129, w_87_130, w_87_131, w_87_134, w_87_135, w_87_136, w_87_137, w_87_138, w_87_141, w_87_142, w_87_143, w_87_144, w_87_145, w_87_148, w_87_149, w_87_150, w_87_153, w_87_154, w_87_157, w_87_158, w_87_159, w_87_160, w_87_163, w_87_164, w_87_165, w_87_166, inB_ic, ic_clamp, en, true_and]; exact Iff.rfl
    · rw [w_87_33_c2]; simp (disch := first | assumption | omega) only [en_87, w_87_1, w_87_4, w_87_7, w_87_8, w_87_9, w_87_10, w_87_11, w_87_14, w_87_15, w_87_16, w_87_19, w_87_22, w_87_32, w_87_88, w_87_89, w_87_92, w_87_93, w_87_94, w_87_95, w_87_96, w_87_99, w_87_100, w_87_101, w_87_102, w_87_103, w_87_106, w_87_107, w_87_108, w_87_109, w_87_110, w_87_113, w_87_114, w_87_115, w_87_116, w_87_117, w_87_120, w_87_121, w_87_122, w_87_123, w_87_124, w_87_127, w_87_128, w_87_129, w_87_130, w_87_131, w_87_134, w_87_135, w_87_136, w_87_137, w_87_138, w_87_141, w_87_142, w_87_143, w_87_144, w_87_145, w_87_148, w_87_149, w_87_150, w_87_153, w_87_154, w_87_157, w_87_158, w_87_159, w_87_160, w_87_163, w_87_164, w_87_165, w_87_166, inB_ic, ic_clamp, en, true_and]; exact Iff.rfl
    · rw [w_87_33_c3]; simp (disch := first | assumption | omega) only [en_87, w_87_1, w_87_4, w_87_7, w_87_8, w_87_9, w_87_10, w_87_11, w_87_14, w_87_15, w_87_16, w_87_19, w_87_22, w_87_32, w_87_88, w_87_89, w_87_92, w_87_93, w_87_94, w_87_95, w_87_96, w_87_99, w_87_100, w_87_101, w_87_102, w_87_103, w_87_106, w_87_107, w_87_108, w_87_109, w_87_110, w_87_113, w_87_114, w_87_115, w_87_116, w_87_117, w_87_120, w_87_121, w_87_122, w_87_123, w_87_124, w_87_127, w_87_128, w_87_129, w_87_130, w_87_131, w_87_134, w_87_135, w_87_136, w_87_137, w_87_138, w_87_141, w_87_142, w_87_143, w_87_144, w_87_145, w_87_148, w_87_149, w_87_150, w_87_153, w_87_154, w_87_157, w_87_158, w_87_159, w_87_160, w_87_163, w_87_164, w_87_165, w_87_166, inB_ic, ic_clamp, en, true_and]; exact Iff.rfl
    · rw [w_87_33_c4]; simp (disch := first | assumption | omega) only [en_87, w_87_1, w_87_4, w_87_7, w_87_8, w_87_9, w_87_10, w_87_11, w_87_14, w_87_15, w_87_16, w_87_19, w_87_22, w_87_32, w_87_88, w_87_89, w_87_92, w_87_93, w_87_94, w_87_95, w_87_96, w_87_99, w_87_100, w_87_101, w_87_102, w_87_103, w_87_106, w_87_107, w_87_108, w_87_109, w_87_110, w_87_113, w_87_114, w_87_115, w_87_116, w_87_117, w_87_120, w_87_121, w_87_122, w_87_123, w_87_124, w_87_127, w_87_128, w_87_129, w_87_130, w_87_131, w_87_134, w_87_135, w_87_136, w_87_137, w_87_138, w_87_141, w_87_142, w_87_143, w_87_144, w_87_145, w_87_148, w_87_149, w_87_150, w_87_153, w_87_154, w_87_157, w_87_158, w_87_159, w_87_160, w_87_163, w_87_164, w_87_165, w_87_166, inB_ic, ic_clamp, en, true_and]; exact Iff.rfl
    · rw [w_87_33_c5]; simp (disch := first | assumption | omega) only [en_87, w_87_1, w_87_4, w_87_7, w_87_8, w_87_9, w_87_10, w_87_11, w_87_14, w_87_15, w_87_16, w_87_19, w_87_22, w_87_32, w_87_88, w_87_89, w_87_92, w_87_93, w_87_94, w_87_95, w_87_96, w_87_99, w_87_100, w_87_101, w_87_102, w_87_103, w_87_106, w_87_107, w_87_108, w_87_109, w_87_110, w_87_113, w_87_114, w_87_115, w_87_116, w_87_117, w_87_120, w_87_121, w_87_122, w_87_123, w_87_124, w_87_127, w_87_128, w_87_129, w_87_130, w_87_131, w_87_134, w_87_135, w_87_136, w_87_137, w_87_138, w_87_141, w_87_142, w_87_143, w_87_144, w_87_145, w_87_148, w_87_149, w_87_150, w_87_153, w_87_154, w_87_157, w_87_158, w_87_159, w_87_160, w_87_163, w_87_164, w_87_165, w_87_166, inB_ic, ic_clamp, en, true_and]; exact Iff.rfl
    · rw [w_87_33_c6]; simp (disch := first | assumption | omega) only [en_87, w_87_1, w_87_4, w_87_7, w_87_8, w_87_9, w_87_10, w_87_11, w_87_14, w_87_15, w_87_16, w_87_19, w_87_22, w_87_32, w_87_88, w_87_89, w_87_92, w_87_93, w_87_94, w_87_95, w_87_96, w_87_99, w_87_100, w_87_101, w_87_102, w_87_103, w_87_106, w_87_107, w_87_108, w_87_109, w_87_110, w_87_113, w_87_114, w_87_115, w_87_116, w_87_117, w_87_120, w_87_121, w_87_122, w_87_123, w_87_124, w_87_127, w_87_128, w_87_129, w_87_130, w_87_131, w_87_134, w_87_135, w_87_136, w_87_137, w_87_138, w_87_141, w_87_142, w_87_143, w_87_144, w_87_145, w_87_148, w_87_149, w_87_150, w_87_153, w_87_154, w_87_157, w_87_158, w_87_159, w_87_160, w_87_163, w_87_164, w_87_165, w_87_166, inB_ic, ic_clamp, en, true_and]; exact Iff.rfl
    · rw [w_87_33_c7]; simp (disch := first | assumption | omega) only [en_87, w_87_1, w_87_4, w_87_7, w_87_8, w_87_9, w_87_10, w_87_11, w_87_14, w_87_15, w_87_16, w_87_19, w_87_22, w_87_32, w_87_88, w_87_89, w_87_92, w_87_93, w_87_94, w_87_95, w_87_96, w_87_99, w_87_100, w_87_101, w_87_102, w_87_103, w_87_106, w_87_107, w_87_108, w_87_109, w_87_110, w_87_113, w_87_114, w_87_115, w_87_116, w_87_117, w_87_120, w_87_121, w_87_122, w_87_123, w_87_124, w_87_127, w_87_128, w_87_129, w_87_130, w_87_131, w_87_134, w_87_135, w_87_136, w_87_137, w_87_138, w_87_141, w_87_142, w_87_143, w_87_144, w_87_145, w_87_148, w_87_149, w_87_150, w_87_153, w_87_154, w_87_157, w_87_158, w_87_159, w_87_160, w_87_163, w_87_164, w_87_165, w_87_166, inB_ic, ic_clamp, en, true_and]; exact Iff.rfl
    · rw [w_87_33_c8]; simp (disch := first | assumption | omega) only [en_87, w_87_1, w_87_4, w_87_7, w_87_8, w_87_9, w_87_10, w_87_11, w_87_14, w_87_15, w_87_16, w_87_19, w_87_22, w_87_32, w_87_88, w_87_89, w_87_92, w_87_93, w_87_94, w_87_95, w_87_96, w_87_99, w_87_100, w_87_101, w_87_102, w_87_103, w_87_106, w_87_107, w_87_108, w_87_109, w_87_110, w_87_113, w_87_114, w_87_115, w_87_116, w_87_117, w_87_120, w_87_121, w_87_122, w_87_123, w_87_124, w_87_127, w_87_128, w_87_129, w_87_130, w_87_131, w_87_134, w_87_135, w_87_136, w_87_137, w_87_138, w_87_141, w_87_142, w_87_143, w_87_144, w_87_145, w_87_148, w_87_149, w_87_150, w_87_153, w_87_154, w_87_157, w_87_158, w_87_159, w_87_160, w_87_163, w_87_164, w_87_165, w_87_166, inB_ic, ic_clamp, en, true_and]
      show _ ↔ K [.int (if X 27 n = 0 then 0 else 1)] (hX u L xs X Z)
      by_cases c : X 27 n = 0
      · rw [if_pos c, if_pos c]
      · rw [if_neg c, if_neg c]
    · rw [w_87_33_c9]; simp (disch := first | assumption | omega) only [en_87, w_87_1, w_87_4, w_87_7, w_87_8, w_87_9, w_87_10, w_87_11, w_87_14, w_87_15, w_87_16, w_87_19, w_87_22, w_87_32, w_87_88, w_87_89, w_87_92, w_87_93, w_87_94, w_87_95, w_87_96, w_87_99, w_87_100, w_87_101, w_87_102, w_87_103, w_87_106, w_87_107, w_87_108, w_87_109, w_87_110, w_87_113, w_87_114, w_87_115, w_87_116, w_87_117, w_87_120, w_87_121, w_87_122, w_87_123, w_87_124, w_87_127, w_87_128, w_87_129, w_87_130, w_87_131, w_87_134, w_87_135, w_87_136, w_87_137, w_87_138, w_87_141, w_87_142, w_87_143, w_87_144, w_87_145, w_87_148, w_87_149, w_87_150, w_87_153, w_87_154, w_87_157, w_87_158, w_87_159, w_87_160, w_87_163, w_87_164, w_87_165, w_87_166, inB_ic, ic_clamp, en, true_and]; exact Iff.rfl
  simp only [en_87, w_87_0, w_87_1, w_87_4, w_87_7, w_87_8, w_87_9, w_87_10, w_87_11, w_87_14, w_87_15, w_87_16, w_87_19, w_87_32, w_87_88, w_87_89, w_87_92, w_87_93, w_87_94, w_87_95, w_87_96, w_87_99, w_87_100, w_87_101, w_87_102, w_87_103, w_87_106, w_87_107, w_87_108, w_87_109, w_87_110, w_87_113, w_87_114, w_87_115, w_87_116, w_87_117, w_87_120, w_87_121, w_87_122, w_87_123, w_87_124, w_87_127, w_87_128, w_87_129, w_87_130, w_87_131, w_87_134, w_87_135, w_87_136, w_87_137, w_87_138, w_87_141, w_87_142, w_87_143, w_87_144, w_87_145, w_87_148, w_87_149, w_87_150, w_87_153, w_87_154, w_87_157, w_87_158, w_87_159, w_87_160, w_87_163, w_87_164, w_87_165, w_87_166, c_within, ne_thr, app1, true_and, e1, decide_true, b2i_t, show ((1 : Int32) = 0) = False by decide, not_false_eq_true, if_true]
  exact go
theorem c_look_no {r q : Int32} (ho : VOK (wz X 25)) (c : ¬ lkB (wz X 25) r q) : Call 87 [.ref 0, .int r, .int q] (hX u L xs X Z) K ↔ K [thr] (hX u L xs X Z) := by
  obtain ⟨o1, o2, _⟩ := ho
  have o1' : X 26 0 = ic (nrN (wz X 25)) := o1
  have e1 : (¬ r < 0 ∧ ¬ X 26 0 - 1 < r) = (¬ r < 0 ∧ ¬ X 26 0 ≤ r) := bel1 o1' (by omega)
  by_cases d : ¬ r < 0 ∧ ¬ X 26 0 ≤ r
  · have c2 : ¬ (¬ q < 0 ∧ ¬ 9 < q) := fun z => c ⟨d, z⟩
    have d' := e1.trans (eq_true d)
    simp only [en_87, w_87_0, w_87_1, w_87_4, w_87_7, w_87_8, w_87_9, w_87_10, w_87_11, w_87_14, w_87_15, w_87_16, w_87_19, w_87_32, w_87_88, w_87_89, w_87_92, w_87_93, w_87_94, w_87_95, w_87_96, w_87_99, w_87_100, w_87_101, w_87_102, w_87_103, w_87_106, w_87_107, w_87_108, w_87_109, w_87_110, w_87_113, w_87_114, w_87_115, w_87_116, w_87_117, w_87_120, w_87_121, w_87_122, w_87_123, w_87_124, w_87_127, w_87_128, w_87_129, w_87_130, w_87_131, w_87_134, w_87_135, w_87_136, w_87_137, w_87_138, w_87_141, w_87_142, w_87_143, w_87_144, w_87_145, w_87_148, w_87_149, w_87_150, w_87_153, w_87_154, w_87_157, w_87_158, w_87_159, w_87_160, w_87_163, w_87_164, w_87_165, w_87_166, c_within, ne_thr, app1, true_and, d', not_false_eq_true, decide_true, b2i_t, show ((1 : Int32) = 0) = False by decide, if_true]
    rw [w_87_33_df (o09 c2)]
    simp only [en_87, w_87_0, w_87_1, w_87_4, w_87_7, w_87_8, w_87_9, w_87_10, w_87_11, w_87_14, w_87_15, w_87_16, w_87_19, w_87_22, w_87_32, w_87_88, w_87_89, w_87_92, w_87_93, w_87_94, w_87_95, w_87_96, w_87_99, w_87_100, w_87_101, w_87_102, w_87_103, w_87_106, w_87_107, w_87_108, w_87_109, w_87_110, w_87_113, w_87_114, w_87_115, w_87_116, w_87_117, w_87_120, w_87_121, w_87_122, w_87_123, w_87_124, w_87_127, w_87_128, w_87_129, w_87_130, w_87_131, w_87_134, w_87_135, w_87_136, w_87_137, w_87_138, w_87_141, w_87_142, w_87_143, w_87_144, w_87_145, w_87_148, w_87_149, w_87_150, w_87_153, w_87_154, w_87_157, w_87_158, w_87_159, w_87_160, w_87_163, w_87_164, w_87_165, w_87_166]
  · rw [← e1] at d
    simp only [en_87, w_87_0, w_87_1, w_87_4, w_87_7, w_87_8, w_87_9, w_87_10, w_87_11, w_87_14, w_87_15, w_87_16, w_87_19, w_87_22, w_87_88, w_87_89, w_87_92, w_87_93, w_87_94, w_87_95, w_87_96, w_87_99, w_87_100, w_87_101, w_87_102, w_87_103, w_87_106, w_87_107, w_87_108, w_87_109, w_87_110, w_87_113, w_87_114, w_87_115, w_87_116, w_87_117, w_87_120, w_87_121, w_87_122, w_87_123, w_87_124, w_87_127, w_87_128, w_87_129, w_87_130, w_87_131, w_87_134, w_87_135, w_87_136, w_87_137, w_87_138, w_87_141, w_87_142, w_87_143, w_87_144, w_87_145, w_87_148, w_87_149, w_87_150, w_87_153, w_87_154, w_87_157, w_87_158, w_87_159, w_87_160, w_87_163, w_87_164, w_87_165, w_87_166, c_within, ne_thr, app1, true_and, d, decide_false, b2i_f, not_true_eq_false, if_false]
theorem c_lies {n : Nat} {q : Int32} (ho : VOK (wz X 25)) (hn : n < nlF (wz X 25)) (hq : ¬ q < 0 ∧ ¬ 3 < q) : Call 88 [.ref 0, .int (ic n), .int q] (hX u L xs X Z) K ↔ K [.int (liV (wz X 25) n q)] (hX u L xs X Z) := by
  obtain ⟨_, _, o1, o2⟩ := ho
  have o1' : X 39 0 = ic (nlF (wz X 25)) := o1
  have e1 : (¬ ic n < 0 ∧ ¬ X 39 0 - 1 < ic n) = True := by
    rw [bel1 o1' (by omega), o1', ic_neg (by omega), ic_le (by omega) (by omega)]
    simp
    omega
  have en : (n < 80) = True := eq_true (by omega)
  have go : WP 88 0 33 [.ref 0, .int (ic n), .int q, .ref 39] [.int q] (hX u L xs X Z) K ↔ K [.int (liV (wz X 25) n q)] (hX u L xs X Z) := by
    unfold liV
    rcases t03 hq.1 hq.2 with h | h | h | h <;> subst h
    · rw [w_88_33_c0]; simp (disch := first | assumption | omega) only [en_88, w_88_1, w_88_4, w_88_7, w_88_8, w_88_9, w_88_10, w_88_11, w_88_14, w_88_15, w_88_16, w_88_19, w_88_22, w_88_32, w_88_64, w_88_65, w_88_68, w_88_69, w_88_70, w_88_71, w_88_72, w_88_75, w_88_76, w_88_77, w_88_78, w_88_79, w_88_82, w_88_83, w_88_84, w_88_85, w_88_86, w_88_89, w_88_90, w_88_91, w_88_92, inB_ic, ic_clamp, en, true_and]; exact Iff.rfl
    · rw [w_88_33_c1]; simp (disch := first | assumption | omega) only [en_88, w_88_1, w_88_4, w_88_7, w_88_8, w_88_9, w_88_10, w_88_11, w_88_14, w_88_15, w_88_16, w_88_19, w_88_22, w_88_32, w_88_64, w_88_65, w_88_68, w_88_69, w_88_70, w_88_71, w_88_72, w_88_75, w_88_76, w_88_77, w_88_78, w_88_79, w_88_82, w_88_83, w_88_84, w_88_85, w_88_86, w_88_89, w_88_90, w_88_91, w_88_92, inB_ic, ic_clamp, en, true_and]; exact Iff.rfl
    · rw [w_88_33_c2]; simp (disch := first | assumption | omega) only [en_88, w_88_1, w_88_4, w_88_7, w_88_8, w_88_9, w_88_10, w_88_11, w_88_14, w_88_15, w_88_16, w_88_19, w_88_22, w_88_32, w_88_64, w_88_65, w_88_68, w_88_69, w_88_70, w_88_71, w_88_72, w_88_75, w_88_76, w_88_77, w_88_78, w_88_79, w_88_82, w_88_83, w_88_84, w_88_85, w_88_86, w_88_89, w_88_90, w_88_91, w_88_92, inB_ic, ic_clamp, en, true_and]; exact Iff.rfl
    · rw [w_88_33_c3]; simp (disch := first | assumption | omega) only [en_88, w_88_1, w_88_4, w_88_7, w_88_8, w_88_9, w_88_10, w_88_11, w_88_14, w_88_15, w_88_16, w_88_19, w_88_22, w_88_32, w_88_64, w_88_65, w_88_68, w_88_69, w_88_70, w_88_71, w_88_72, w_88_75, w_88_76, w_88_77, w_88_78, w_88_79, w_88_82, w_88_83, w_88_84, w_88_85, w_88_86, w_88_89, w_88_90, w_88_91, w_88_92, inB_ic, ic_clamp, en, true_and]; exact Iff.rfl
  simp only [en_88, w_88_0, w_88_1, w_88_4, w_88_7, w_88_8, w_88_9, w_88_10, w_88_11, w_88_14, w_88_15, w_88_16, w_88_19, w_88_32, w_88_64, w_88_65, w_88_68, w_88_69, w_88_70, w_88_71, w_88_72, w_88_75, w_88_76, w_88_77, w_88_78, w_88_79, w_88_82, w_88_83, w_88_84, w_88_85, w_88_86, w_88_89, w_88_90, w_88_91, w_88_92, c_within, ne_thr, app1, true_and, e1, decide_true, b2i_t, show ((1 : Int32) = 0) = False by decide, not_false_eq_true, if_true]
  exact go
theorem c_lies_no {r q : Int32} (ho : VOK (wz X 25)) (c : ¬ liB (wz X 25) r q) : Call 88 [.ref 0, .int r, .int q] (hX u L xs X Z) K ↔ K [thr] (hX u L xs X Z) := by
  obtain ⟨_, _, o1, o2⟩ := ho
  have o1' : X 39 0 = ic (nlF (wz X 25)) := o1
  have e1 : (¬ r < 0 ∧ ¬ X 39 0 - 1 < r) = (¬ r < 0 ∧ ¬ X 39 0 ≤ r) := bel1 o1' (by omega)
  by_cases d : ¬ r < 0 ∧ ¬ X 39 0 ≤ r
  · have c2 : ¬ (¬ q < 0 ∧ ¬ 3 < q) := fun z => c ⟨d, z⟩
    have d' := e1.trans (eq_true d)
    simp only [en_88, w_88_0, w_88_1, w_88_4, w_88_7, w_88_8, w_88_9, w_88_10, w_88_11, w_88_14, w_88_15, w_88_16, w_88_19, w_88_32, w_88_64, w_88_65, w_88_68, w_88_69, w_88_70, w_88_71, w_88_72, w_88_75, w_88_76, w_88_77, w_88_78, w_88_79, w_88_82, w_88_83, w_88_84, w_88_85, w_88_86, w_88_89, w_88_90, w_88_91, w_88_92, c_within, ne_thr, app1, true_and, d', not_false_eq_true, decide_true, b2i_t, show ((1 : Int32) = 0) = False by decide, if_true]
    rw [w_88_33_df (o03 c2)]
    simp only [en_88, w_88_0, w_88_1, w_88_4, w_88_7, w_88_8, w_88_9, w_88_10, w_88_11, w_88_14, w_88_15, w_88_16, w_88_19, w_88_22, w_88_32, w_88_64, w_88_65, w_88_68, w_88_69, w_88_70, w_88_71, w_88_72, w_88_75, w_88_76, w_88_77, w_88_78, w_88_79, w_88_82, w_88_83, w_88_84, w_88_85, w_88_86, w_88_89, w_88_90, w_88_91, w_88_92]
  · rw [← e1] at d
    simp only [en_88, w_88_0, w_88_1, w_88_4, w_88_7, w_88_8, w_88_9, w_88_10, w_88_11, w_88_14, w_88_15, w_88_16, w_88_19, w_88_22, w_88_64, w_88_65, w_88_68, w_88_69, w_88_70, w_88_71, w_88_72, w_88_75, w_88_76, w_88_77, w_88_78, w_88_79, w_88_82, w_88_83, w_88_84, w_88_85, w_88_86, w_88_89, w_88_90, w_88_91, w_88_92, c_within, ne_thr, app1, true_and, d, decide_false, b2i_f, not_true_eq_false, if_false]
end
