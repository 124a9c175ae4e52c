/-! THE SIMPLE CALLS, OF BOTH SIDES: load, of the model -/
section
variable {u : Nat × Nat} {L : Nat} {xs : Nat → Int32} {X X' : Nat → Nat → Int32} {Z : Nat → Nat → Int64} {K : List Value → AH → Prop} {V W : Nat → Nat → Int32}
theorem MR_n18 {v : Int32} (h : MR X V) : MR (sv X 97 18 v) (sv V 14 0 v) := by
  obtain ⟨h1, h2, h3, h4⟩ := h
  refine ⟨by rw [sv_i (by decide), sv_a (by decide)]; exact h1, by rw [sv_i (by decide), sv_a (by decide)]; exact h2, by rw [sv_s, sv_s], fun b j hj => ?_⟩
  have n0 : b ≠ 14 := by rintro rfl; exact absurd hj (Nat.not_lt_zero _)
  rw [sv_a (mcl_lt hj).1, sv_a n0]
  exact h4 b j hj
def alX (X : Nat → Nat → Int32) (n : Nat) (kd a b mi : Int32) : Nat → Nat → Int32 := sv (sv (sv (sv (sv (sv X 109 n kd) 110 n a) 111 n b) 112 n mi) 113 (152 + n) (-1)) 97 18 (ic (n + 1))
theorem alX_MR {n : Nat} {kd a b mi : Int32} (h80 : n < 80) (h0 : V 19 n = 0) (h : MR X V) : MR (alX X n kd a b mi) (adL V n kd a b mi) := by
  have e : adL V n kd a b mi = sv (sv (sv (sv (sv (sv V 15 n kd) 16 n a) 17 n b) 18 n mi) 20 n (-1)) 14 0 (ic (n + 1)) := by
    funext c i
    unfold adL
    simp only [sv_at]
    by_cases q : c = 19 ∧ i = n
    · obtain ⟨rfl, rfl⟩ := q
      simp [h0]
    · simp [q]
  have g1 := MR_upc (a := 15) (i := n) (v := kd) h h80
  have g2 := MR_upc (a := 16) (i := n) (v := a) g1 h80
  have g3 := MR_upc (a := 17) (i := n) (v := b) g2 h80
  have g4 := MR_upc (a := 18) (i := n) (v := mi) g3 h80
  simp only [show mof 15 = 0 from rfl, show mof 16 = 0 from rfl, show mof 17 = 0 from rfl, show mof 18 = 0 from rfl, Nat.zero_add, show mcl 15 = 109 from rfl, show mcl 16 = 110 from rfl, show mcl 17 = 111 from rfl, show mcl 18 = 112 from rfl] at g4
  rw [e]
  exact MR_n18 (u20 g4 h80)
theorem sv_9718 {a i : Nat} {v : Int32} (h : 97 ≠ a) : sv V a i v 97 18 = V 97 18 := by rw [sv_a h]
theorem m_load {n : Nat} {kd a b mi : Int32} (r1 : X 97 10 = V 1 0) (q18 : X 97 18 = ic n) (h80 : n < 80) (c1 : ¬ kd < 0 ∧ ¬ 2 < kd) (c2 : ¬ mi < 0 ∧ ¬ 600 < mi) (c4 : ¬ a < 0 ∧ ¬ V 1 0 ≤ a) (c5 : ¬ b < 0 ∧ ¬ V 1 0 ≤ b) (c6 : ¬ a = b) : Call 113 [.ref 97, .int kd, .int a, .int b, .int mi] (hX u L xs X Z) K ↔ K [.int (ic n)] (hX u L xs (alX (sv X 97 0 0) n kd a b mi) Z) := by
  have q1 : (sv X 97 0 0) 97 10 = V 1 0 := by rw [sv_i (by decide)]; exact r1
  have q2 : (sv X 97 0 0) 97 18 = ic n := by rw [sv_i (by decide)]; exact q18
  have e80 : (n < 80) = True := eq_true h80
  have e1 : (152 + n < 392) = True := eq_true (by omega)
  have c8 : (n = 80) = False := eq_false (by omega)
  have x4 : ∀ Y : Nat → Nat → Int32, (sv Y 97 18 (ic (n + 1))) 97 18 = ic (n + 1) := fun Y => sv_s
  have s1 : ic (n + 1) - 1 = ic n := by rw [ic_pred (by omega)]; rfl
  have d1 := c1.1
  have d2 := c1.2
  have d3 := c2.1
  have d4 := c2.2
  have e4 := decide_eq_true c4
  have e5 := decide_eq_true c5
  simp (disch := first | assumption | omega) only [en_113, w_113_0, w_113_1, w_113_2, w_113_6, w_113_9, w_113_10, w_113_11, w_113_14, w_113_15, w_113_16, w_113_19, w_113_22, w_113_23, w_113_24, w_113_27, w_113_30, w_113_31, w_113_32, w_113_35, w_113_37, w_113_40, w_113_42, w_113_45, w_113_48, w_113_49, w_113_52, w_113_54, w_113_57, w_113_58, w_113_59, w_113_60, w_113_63, w_113_64, w_113_67, w_113_68, w_113_69, w_113_70, w_113_73, w_113_74, w_113_77, w_113_78, w_113_79, w_113_80, w_113_83, w_113_84, w_113_87, w_113_88, w_113_89, w_113_90, w_113_93, w_113_94, w_113_97, w_113_99, w_113_100, w_113_101, w_113_104, w_113_107, w_113_108, w_113_111, w_113_112, w_113_113, w_113_114, w_113_115, w_113_116, w_113_119, w_113_120, w_113_121, w_113_124, w_113_125, w_113_128, w_113_129, w_113_130, sv_d]
  generalize sv X 97 0 0 = X0 at q1 q2 ⊢
  simp (disch := first | assumption | omega | decide) only [en_113, w_113_0, w_113_1, w_113_2, w_113_5, w_113_6, w_113_9, w_113_10, w_113_11, w_113_14, w_113_15, w_113_16, w_113_19, w_113_22, w_113_23, w_113_24, w_113_27, w_113_30, w_113_31, w_113_32, w_113_35, w_113_37, w_113_40, w_113_42, w_113_45, w_113_48, w_113_49, w_113_52, w_113_54, w_113_57, w_113_58, w_113_59, w_113_60, w_113_63, w_113_64, w_113_67, w_113_68, w_113_69, w_113_70, w_113_73, w_113_74, w_113_77, w_113_78, w_113_79, w_113_80, w_113_83, w_113_84, w_113_87, w_113_88, w_113_89, w_113_90, w_113_93, w_113_94, w_113_97, w_113_99, w_113_100, w_113_101, w_113_104, w_113_107, w_113_108, w_113_111, w_113_112, w_113_113, w_113_114, w_113_115, w_113_116, w_113_119, w_113_120, w_113_121, w_113_124, w_113_125, w_113_128, w_113_129, w_113_130, m_isPlace (V := V) q1, ne_thr, app1, true_and, e4, e5, b2i_t, show ((1 : Int32) = 0) = False by decide, q2, d1, d2, d3, d4, c6, if_false, show (80 : Int32) = ic 80 from rfl, ic_eq, c8, not_false_eq_true, if_true, a152, inB_ic, ic_clamp, e80, e1, sv_d, sv_9718, ic_add1, x4, s1, alX]
theorem m_load_no {n : Nat} {kd a b mi : Int32} (r1 : X 97 10 = X 1 0) (hm : MR X V) (hn : V 14 0 = ic n) (h80 : n ≤ 80) (h : ¬ ldB X V kd a b mi) : Call 113 [.ref 97, .int kd, .int a, .int b, .int mi] (hX u L xs X Z) K ↔ K [.int (-1)] (hX u L xs (sv X 97 0 0) Z) := by
  have q1 : (sv X 97 0 0) 97 10 = X 1 0 := by rw [sv_i (by decide)]; exact r1
  have q2 : (sv X 97 0 0) 97 18 = ic n := by rw [sv_i (by decide), hm.2.2.1]; exact hn
  unfold ldB at h
  rw [hn] at h
  simp only [en_113, w_113_0, w_113_1, w_113_2, w_113_5, w_113_6, w_113_9, w_113_10, w_113_11, w_113_14, w_113_15, w_113_16, w_113_19, w_113_22, w_113_23, w_113_24, w_113_27, w_113_30, w_113_31, w_113_32, w_113_35, w_113_37, w_113_40, w_113_42, w_113_45, w_113_48, w_113_49, w_113_52, w_113_54, w_113_57, w_113_58, w_113_60, w_113_63, w_113_64, w_113_67, w_113_68, w_113_69, w_113_70, w_113_73, w_113_74, w_113_77, w_113_78, w_113_79, w_113_80, w_113_83, w_113_84, w_113_87, w_113_88, w_113_89, w_113_90, w_113_93, w_113_94, w_113_97, w_113_99, w_113_100, w_113_101, w_113_104, w_113_107, w_113_108, w_113_111, w_113_112, w_113_113, w_113_114, w_113_115, w_113_116, w_113_119, w_113_120, w_113_121, w_113_124, w_113_125, w_113_128, w_113_129, w_113_130, sv_d, m_isPlace (V := X) q1, ne_thr, app1, true_and, b2i_z, q2]
  by_cases c1 : kd < 0
  · simp only [c1, if_true]
  · by_cases c1' : 2 < kd
    · simp only [c1, c1', if_true, if_false]
    · by_cases c4 : ¬ a < 0 ∧ ¬ X 1 0 ≤ a
      · rw [decide_eq_true c4]
        by_cases c5 : ¬ b < 0 ∧ ¬ X 1 0 ≤ b
        · rw [decide_eq_true c5]
          by_cases c6 : a = b
          · simp only [c1, c1', c6, if_true, if_false, Bool.true_eq_false]
          · by_cases c2 : mi < 0
            · simp only [c1, c1', c6, c2, if_true, if_false, Bool.true_eq_false]
            · by_cases c3 : 600 < mi
              · simp only [c1, c1', c6, c2, c3, if_true, if_false, Bool.true_eq_false]
              · have c8 : ic n = 80 := by
                  have z : ¬ ic n < 80 := fun q => h ⟨⟨c1, c1'⟩, ⟨c2, c3⟩, q, c4, c5, c6⟩
                  rw [show (80 : Int32) = ic 80 from rfl, ic_lt (by omega) (by omega)] at z
                  rw [show (80 : Int32) = ic 80 from rfl, show n = 80 by omega]
                simp only [c1, c1', c6, c2, c3, c8, if_false, Bool.true_eq_false, not_true_eq_false]
        · rw [decide_eq_false c5]
          simp only [c1, c1', if_true, if_false, Bool.true_eq_false]
      · rw [decide_eq_false c4]
        simp only [c1, c1', if_true, if_false]
end
