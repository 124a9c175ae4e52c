/-! THE SIMPLE CALLS, OF BOTH SIDES: load -/
section
variable {u : Nat × Nat} {L : Nat} {xs : Nat → Int32} {X X' : Nat → Nat → Int32} {Z : Nat → Nat → Int64} {K : List Value → AH → Prop} {V W : Nat → Nat → Int32} {w : Nat}
def adL (V : Nat → Nat → Int32) (n : Nat) (kd a b mi : Int32) : Nat → Nat → Int32 := sv (sv (sv (sv (sv (sv (sv V 15 n kd) 16 n a) 17 n b) 18 n mi) 19 n 0) 20 n (-1)) 14 0 (ic (n + 1))
theorem sv_14 {a i : Nat} {v : Int32} (h : 14 ≠ a) : sv V a i v 14 0 = V 14 0 := by rw [sv_a h]
theorem c_addL (hw : isWd w) {n : Nat} {kd a b mi : Int32} (hn : V 14 0 = ic n) (h80 : n < 80) : Call 13 [.ref (w + 14), .int kd, .int a, .int b, .int mi] (hW u L xs X Z w V) K ↔ K [.int (ic n)] (hW u L xs X Z w (adL V n kd a b mi)) := by
  have e : (n < 80) = True := eq_true h80
  have s1 : ic (n + 1) - 1 = ic n := by rw [ic_pred (by omega)]; rfl
  have x4 : ∀ Y : Nat → Nat → Int32, (sv Y 14 0 (ic (n + 1))) 14 0 = ic (n + 1) := fun Y => sv_s
  simp (disch := first | assumption | omega | decide) only [en_13, w_13_0, w_13_1, w_13_4, w_13_6, w_13_9, w_13_10, w_13_11, w_13_12, w_13_15, w_13_16, w_13_19, w_13_20, w_13_21, w_13_22, w_13_25, w_13_26, w_13_29, w_13_30, w_13_31, w_13_32, w_13_35, w_13_36, w_13_39, w_13_40, w_13_41, w_13_42, w_13_45, w_13_46, w_13_49, w_13_51, w_13_52, w_13_53, w_13_56, w_13_57, w_13_60, w_13_61, w_13_62, w_13_63, w_13_66, w_13_67, w_13_70, w_13_71, w_13_72, w_13_73, w_13_74, w_13_77, w_13_78, w_13_79, w_13_82, w_13_83, w_13_86, w_13_87, w_13_88, hn, show (80 : Int32) = ic 80 from rfl, ic_lt, e, if_true, inB_ic, ic_clamp, true_and, sv_d, sv_14, ic_add1, x4, s1, adL]
theorem adL_ne {n c : Nat} {kd a b mi : Int32} (h14 : c ≠ 14) (h15 : c ≠ 15) (h16 : c ≠ 16) (h17 : c ≠ 17) (h18 : c ≠ 18) (h19 : c ≠ 19) (h20 : c ≠ 20) : adL V n kd a b mi c = V c := by
  unfold adL
  rw [sv_a h14, sv_a h20, sv_a h19, sv_a h18, sv_a h17, sv_a h16, sv_a h15]
theorem adL_o {n c k : Nat} {kd a b mi : Int32} (h14 : c ≠ 14) (h : k ≠ n) : adL V n kd a b mi c k = V c k := by
  unfold adL
  rw [sv_a h14]
  simp only [sv_at, h, and_false, if_false]
theorem itr_last {α : Type} {f : Nat → α → α} : ∀ d k a, itr f k (d + 1) a = f (k + d) (itr f k d a) := by
  intro d
  induction d with
  | zero => intro k a; rfl
  | succ d ih =>
    intro k a
    show itr f (k + 1) (d + 1) (f k a) = _
    rw [ih, show k + 1 + d = k + (d + 1) by omega]
    rfl
theorem adL_WI {np n : Nat} {kd mi : Int32} {a b : Nat} (hn : nlF V = n) (h80 : n < 80) (ha : a < 10) (hb : b < 10) (h : WI np V) : WI np (adL V n kd (ic a) (ic b) mi) := by
  obtain ⟨h1, h2, h3, h4⟩ := h
  have e14 : adL V n kd (ic a) (ic b) mi 14 0 = ic (n + 1) := by unfold adL; exact sv_s
  have el : nlF (adL V n kd (ic a) (ic b) mi) = n + 1 := by unfold nlF; rw [e14, ic_clamp (by omega)]
  have e1 : adL V n kd (ic a) (ic b) mi 1 = V 1 := adL_ne (by decide) (by decide) (by decide) (by decide) (by decide) (by decide) (by decide)
  have en : nrN (adL V n kd (ic a) (ic b) mi) = nrN V := by unfold nrN; rw [e1]
  have e19 : adL V n kd (ic a) (ic b) mi 19 n = 0 := by unfold adL; rw [sv_a (by decide), sv_a (by decide), sv_s]
  have e16 : adL V n kd (ic a) (ic b) mi 16 n = ic a := by unfold adL; rw [sv_a (by decide), sv_a (by decide), sv_a (by decide), sv_a (by decide), sv_a (by decide), sv_s]
  have e17 : adL V n kd (ic a) (ic b) mi 17 n = ic b := by unfold adL; rw [sv_a (by decide), sv_a (by decide), sv_a (by decide), sv_a (by decide), sv_s]
  refine ⟨?_, VI_eq e1 (adL_ne (by decide) (by decide) (by decide) (by decide) (by decide) (by decide) (by decide)) (adL_ne (by decide) (by decide) (by decide) (by decide) (by decide) (by decide) (by decide)) (adL_ne (by decide) (by decide) (by decide) (by decide) (by decide) (by decide) (by decide)) (adL_ne (by decide) (by decide) (by decide) (by decide) (by decide) (by decide) (by decide)) h2, fun k hk => ?_, fun r hr => ?_⟩
  · unfold VOK
    rw [en, el, e14, e1]
    exact ⟨h1.1, h1.2.1, rfl, by omega⟩
  · rw [el] at hk
    by_cases c : k = n
    · subst c
      exact ⟨a, b, ha, hb, e16, e17⟩
    · rw [adL_o (by decide) c, adL_o (by decide) c]
      exact h3 k (by omega)
  · have q : ∀ per, insF (adL V n kd (ic a) (ic b) mi) r per = insF V r per := by
      intro per
      unfold insF
      rw [el, itr_last, hn, Nat.zero_add]
      have z : insB (adL V n kd (ic a) (ic b) mi) r per n = false := by unfold insB; rw [e19]; simp
      have g : itr (insS (adL V n kd (ic a) (ic b) mi) r per) 0 n 0 = itr (insS V r per) 0 n 0 := itr_congr (fun j c _ hj => by
        unfold insS
        rw [insB_o (k := 0) (adL_o (by decide) (by omega)) (adL_o (by decide) (by omega)) (adL_o (by decide) (by omega))])
      rw [g]
      show itr (insS V r per) 0 n 0 + b2i (insB (adL V n kd (ic a) (ic b) mi) r per n) = itr (insS V r per) 0 n 0
      rw [z, b2i_f, Int32.add_zero]
    rw [q, q, adL_ne (by decide) (by decide) (by decide) (by decide) (by decide) (by decide) (by decide), adL_ne (by decide) (by decide) (by decide) (by decide) (by decide) (by decide) (by decide)]
    exact h4 r hr
theorem adL_FL {n : Nat} {kd a b mi : Int32} (hn : nlF V = n) (h80 : n < 80) (h : FL V) : FL (adL V n kd a b mi) := by
  intro k hk
  have e14 : adL V n kd a b mi 14 0 = ic (n + 1) := by unfold adL; exact sv_s
  have el : nlF (adL V n kd a b mi) = n + 1 := by unfold nlF; rw [e14, ic_clamp (by omega)]
  rw [el] at hk
  rw [adL_o (by decide) (by omega)]
  exact h k (by omega)
def ldB (X V : Nat → Nat → Int32) (kd a b mi : Int32) : Prop := (¬ kd < 0 ∧ ¬ 2 < kd) ∧ (¬ mi < 0 ∧ ¬ 600 < mi) ∧ V 14 0 < 80 ∧ (¬ a < 0 ∧ ¬ X 1 0 ≤ a) ∧ (¬ b < 0 ∧ ¬ X 1 0 ≤ b) ∧ ¬ a = b
theorem c_load_no {kd a b mi : Int32} (h : ¬ ldB X (wz X 25) kd a b mi) : Call 78 [.ref 0, .int kd, .int a, .int b, .int mi] (hX u L xs X Z) K ↔ K [.int (-1)] (hX u L xs X Z) := by
  have w1 : wz X 25 14 0 = X 39 0 := by rw [wz_at (by decide)]
  unfold ldB at h
  rw [w1] at h
  simp only [en_78, w_78_0, w_78_1, w_78_2, w_78_3, w_78_6, w_78_9, w_78_11, w_78_12, w_78_15, w_78_18, w_78_21, w_78_22, w_78_25, w_78_28, w_78_31, w_78_33, w_78_36, w_78_37, w_78_38, w_78_39, w_78_42, w_78_43, w_78_46, w_78_49, w_78_50, w_78_53, w_78_54, w_78_57, w_78_60, w_78_61, w_78_62, w_78_65, w_78_66, w_78_68, w_78_71, w_78_74, w_78_75, w_78_76, w_78_77, w_78_79, w_78_82, c_within, c_hasPlace, ne_thr, app1, true_and, b2i_z]
  by_cases c1 : ¬ kd < 0 ∧ ¬ 2 < kd
  · by_cases c2 : ¬ mi < 0 ∧ ¬ 600 < mi
    · by_cases c3 : X 39 0 < 80
      · by_cases c4 : ¬ a < 0 ∧ ¬ X 1 0 ≤ a
        · by_cases c5 : ¬ b < 0 ∧ ¬ X 1 0 ≤ b
          · have c6 : a = b := Classical.not_not.mp (fun q => h ⟨c1, c2, c3, c4, c5, q⟩)
            rw [decide_eq_true c1, decide_eq_true c2, decide_eq_true c4, decide_eq_true c5]
            simp [c3, c6]
          · rw [decide_eq_true c1, decide_eq_true c2, decide_eq_true c4, decide_eq_false c5]
            simp [c3]
        · rw [decide_eq_true c1, decide_eq_true c2, decide_eq_false c4]
          simp [c3]
      · rw [decide_eq_true c1, decide_eq_true c2]
        simp [c3]
    · rw [decide_eq_true c1, decide_eq_false c2]
      simp
  · rw [decide_eq_false c1]
    simp
theorem c_load {n : Nat} {kd a b mi : Int32} (hn : wz X 25 14 0 = ic n) (h80 : n < 80) (h : ldB X (wz X 25) kd a b mi) : Call 78 [.ref 0, .int kd, .int a, .int b, .int mi] (hX u L xs X Z) K ↔ K [.int (ic n)] (hX u L xs (pw X 25 (adL (wz X 25) n kd a b mi)) Z) := by
  have w1 : wz X 25 14 0 = X 39 0 := by rw [wz_at (by decide)]
  unfold ldB at h
  rw [w1] at h
  obtain ⟨c1, c2, c3, c4, c5, c6⟩ := h
  have e1 := decide_eq_true c1
  have e2 := decide_eq_true c2
  have e4 := decide_eq_true c4
  have e5 := decide_eq_true c5
  simp (disch := first | assumption | omega) only [en_78, w_78_0, w_78_1, w_78_2, w_78_3, w_78_6, w_78_9, w_78_11, w_78_12, w_78_15, w_78_18, w_78_21, w_78_22, w_78_25, w_78_28, w_78_31, w_78_33, w_78_36, w_78_37, w_78_38, w_78_39, w_78_42, w_78_43, w_78_46, w_78_49, w_78_50, w_78_53, w_78_54, w_78_57, w_78_60, w_78_61, w_78_62, w_78_65, w_78_66, w_78_68, w_78_71, w_78_74, w_78_75, w_78_76, w_78_77, w_78_79, w_78_82, c_within, c_hasPlace, ne_thr, app1, true_and, e1, e2, c3, e4, e5, c6, b2i_t, show ((1 : Int32) = 0) = False by decide, if_false, if_true, not_false_eq_true]
  rw [w_78_67, w_78_68, w_78_71, w_78_74, w_78_75, w_78_76, w_78_77, w_78_79, hX_W (w := 25), show (39 : Nat) = 25 + 14 from rfl, c_addL (Or.inl rfl) hn h80]
  simp only [ne_thr, app1, true_and]
  unfold hW
  simp only [en_78, w_78_0, w_78_1, w_78_2, w_78_3, w_78_6, w_78_9, w_78_11, w_78_12, w_78_15, w_78_18, w_78_21, w_78_22, w_78_25, w_78_28, w_78_31, w_78_33, w_78_36, w_78_37, w_78_38, w_78_39, w_78_42, w_78_43, w_78_46, w_78_49, w_78_50, w_78_53, w_78_54, w_78_57, w_78_60, w_78_61, w_78_62, w_78_65, w_78_66, w_78_68, w_78_71, w_78_74, w_78_75, w_78_76, w_78_77, w_78_79, w_78_82]
end
