/-! THE SIMPLE CALLS, OF BOTH SIDES: run -/
section
variable {u : Nat × Nat} {L : Nat} {xs : Nat → Int32} {X X' : Nat → Nat → Int32} {Z : Nat → Nat → Int64} {K : List Value → AH → Prop} {V W : Nat → Nat → Int32} {w : Nat}
def adR (V : Nat → Nat → Int32) (n : Nat) (up mi se ro : Int32) : Nat → Nat → Int32 := sv (sv (sv (sv (sv (sv (sv V 2 n up) 5 n mi) 3 n se) 4 n ro) 6 n 0) 7 n (-1)) 1 0 (ic (n + 1))
theorem sv_10 {a i : Nat} {v : Int32} (h : 1 ≠ a) : sv V a i v 1 0 = V 1 0 := by rw [sv_a h]
theorem c_add (hw : isWd w) {n : Nat} {up mi se ro : Int32} (hu : up = 0 ∨ up = 1) (hn : V 1 0 = ic n) (h12 : n < 12) : Call 1 [.ref (w + 1), .int up, .int mi, .int se, .int ro] (hW u L xs X Z w V) K ↔ K [.int (ic n)] (hW u L xs X Z w (adR V n up mi se ro)) := by
  have e : (n < 12) = True := eq_true h12
  have pn : vp_nar .boolean up = up := by rcases hu with rfl | rfl <;> rfl
  have s1 : ic (n + 1) - 1 = ic n := by rw [ic_pred (by omega)]; rfl
  have x4 : ∀ Y : Nat → Nat → Int32, (sv Y 1 0 (ic (n + 1))) 1 0 = ic (n + 1) := fun Y => sv_s
  simp (disch := first | assumption | omega | decide) only [en_1, w_1_0, w_1_1, w_1_4, w_1_6, w_1_9, w_1_10, w_1_11, w_1_12, w_1_15, w_1_16, w_1_19, w_1_20, w_1_21, w_1_22, w_1_25, w_1_26, w_1_29, w_1_30, w_1_31, w_1_32, w_1_35, w_1_36, w_1_39, w_1_40, w_1_41, w_1_42, w_1_45, w_1_46, w_1_49, w_1_51, w_1_52, w_1_53, w_1_56, w_1_57, w_1_60, w_1_61, w_1_62, w_1_63, w_1_66, w_1_67, w_1_70, w_1_71, w_1_72, w_1_73, w_1_74, w_1_77, w_1_78, w_1_79, w_1_82, w_1_83, w_1_86, w_1_87, w_1_88, hn, show (12 : Int32) = ic 12 from rfl, ic_lt, e, if_true, inB_ic, ic_clamp, true_and, sv_d, pn, sv_10, ic_add1, x4, s1, adR]
theorem adR_ne {n a : Nat} {up mi se ro : Int32} (h1 : a ≠ 1) (h2 : a ≠ 2) (h3 : a ≠ 3) (h4 : a ≠ 4) (h5 : a ≠ 5) (h6 : a ≠ 6) (h7 : a ≠ 7) : adR V n up mi se ro a = V a := by
  unfold adR
  rw [sv_a h1, sv_a h7, sv_a h6, sv_a h4, sv_a h3, sv_a h5, sv_a h2]
theorem adR_o {n a k : Nat} {up mi se ro : Int32} (h1 : a ≠ 1) (h : k ≠ n) : adR V n up mi se ro a k = V a k := by
  unfold adR
  rw [sv_a h1]
  simp only [sv_at, h, and_false, if_false]
theorem adR_WI {np n : Nat} {up mi se ro : Int32} (hn : nrN V = n) (h12 : n < 12) (hnp : 2 ≤ np) (h : WI np V) : WI np (adR V n up mi se ro) := by
  obtain ⟨h1, h2, h3, h4⟩ := h
  have e10 : adR V n up mi se ro 1 0 = ic (n + 1) := by unfold adR; exact sv_s
  have en : nrN (adR V n up mi se ro) = n + 1 := by unfold nrN; rw [e10, ic_clamp (by omega)]
  have e14 : adR V n up mi se ro 14 = V 14 := adR_ne (by decide) (by decide) (by decide) (by decide) (by decide) (by decide) (by decide)
  have el : nlF (adR V n up mi se ro) = nlF V := by unfold nlF; rw [e14]
  have e6 : adR V n up mi se ro 6 n = 0 := by unfold adR; rw [sv_a (by decide), sv_a (by decide), sv_s]
  have e8 : adR V n up mi se ro 8 n = 0 := by
    rw [adR_ne (by decide) (by decide) (by decide) (by decide) (by decide) (by decide) (by decide)]
    have q := h2.2.2 n h12 (by omega)
    exact (h2.2.1 n h12).2.2 (by rw [q]; decide)
  refine ⟨?_, ⟨fun _ => hnp, fun k hk => ?_, fun k hk hk2 => ?_⟩, LI_of e14 (adR_ne (by decide) (by decide) (by decide) (by decide) (by decide) (by decide) (by decide)) (adR_ne (by decide) (by decide) (by decide) (by decide) (by decide) (by decide) (by decide)) h3, CI_of (adR_ne (by decide) (by decide) (by decide) (by decide) (by decide) (by decide) (by decide)) (adR_ne (by decide) (by decide) (by decide) (by decide) (by decide) (by decide) (by decide)) e14 (adR_ne (by decide) (by decide) (by decide) (by decide) (by decide) (by decide) (by decide)) (adR_ne (by decide) (by decide) (by decide) (by decide) (by decide) (by decide) (by decide)) (adR_ne (by decide) (by decide) (by decide) (by decide) (by decide) (by decide) (by decide)) h4⟩
  · unfold VOK
    rw [en, el, e10, e14]
    exact ⟨rfl, by omega, h1.2.2.1, h1.2.2.2⟩
  · by_cases c : k = n
    · subst c
      unfold VI1
      rw [e6, e8]
      exact ⟨fun q => by rcases q with q | q <;> exact absurd q (by decide), fun q => absurd q (by decide), fun _ => rfl⟩
    · exact VI1_of (adR_o (by decide) c) (adR_o (by decide) c) (adR_o (by decide) c) (adR_o (by decide) c) (h2.2.1 k hk)
  · rw [en] at hk2
    rw [adR_o (by decide) (by omega)]
    exact h2.2.2 k hk (by omega)
def rnB (X V : Nat → Nat → Int32) (mi se ro : Int32) : Bool := decide (¬ X 1 0 < 2) && moB V mi && decide (V 1 0 < 12) && decide (¬ se < 1 ∧ ¬ 40 < se) && decide (¬ ro < 0 ∧ ¬ 40 < ro)
theorem c_run_no {up mi se ro : Int32} (h : rnB X (wz X 25) mi se ro = false) : Call 77 [.ref 0, .int up, .int mi, .int se, .int ro] (hX u L xs X Z) K ↔ K [.int (-1)] (hX u L xs X Z) := by
  have w1 : wz X 25 1 0 = X 26 0 := by rw [wz_at (by decide)]
  unfold rnB at h
  rw [w1] at h
  simp only [en_77, w_77_0, w_77_1, w_77_4, w_77_7, w_77_8, w_77_11, w_77_12, w_77_13, w_77_16, w_77_19, w_77_20, w_77_23, w_77_26, w_77_29, w_77_31, w_77_34, w_77_35, w_77_36, w_77_37, w_77_38, w_77_40, w_77_43, w_77_46, w_77_48, w_77_49, w_77_51, w_77_54, w_77_57, w_77_58, w_77_60, w_77_63, w_77_66, w_77_67, w_77_68, w_77_69, w_77_71, w_77_74, c_maySetOut, c_within, ne_thr, app1, true_and, b2i_z]
  by_cases c1 : X 1 0 < 2
  · simp [c1]
  · by_cases c2 : moB (wz X 25) mi = true
    · by_cases c3 : X 26 0 < 12
      · by_cases c4 : ¬ se < 1 ∧ ¬ 40 < se
        · have c5 : ¬ (¬ ro < 0 ∧ ¬ 40 < ro) := fun q => by
            rw [decide_eq_true c1, c2, decide_eq_true c3, decide_eq_true c4, decide_eq_true q] at h
            exact absurd h (by decide)
          rw [decide_eq_true c4, decide_eq_false c5]
          simp [c1, c2, c3]
        · rw [decide_eq_false c4]
          simp [c1, c2, c3]
      · simp [c1, c2, c3]
    · simp [c1, show moB (wz X 25) mi = false by simpa using c2]
theorem c_run {n : Nat} {up mi se ro : Int32} (hu : up = 0 ∨ up = 1) (hn : wz X 25 1 0 = ic n) (h12 : n < 12) (h : rnB X (wz X 25) mi se ro = true) : Call 77 [.ref 0, .int up, .int mi, .int se, .int ro] (hX u L xs X Z) K ↔ K [.int (ic n)] (hX u L xs (pw X 25 (adR (wz X 25) n up mi se ro)) Z) := by
  have w1 : wz X 25 1 0 = X 26 0 := by rw [wz_at (by decide)]
  unfold rnB at h
  rw [w1] at h
  simp only [Bool.and_eq_true, decide_eq_true_eq] at h
  obtain ⟨⟨⟨⟨c1, c2⟩, c3⟩, c4⟩, c5⟩ := h
  have e4 := decide_eq_true c4
  have e5 := decide_eq_true c5
  simp (disch := first | assumption | omega) only [en_77, w_77_0, w_77_1, w_77_4, w_77_7, w_77_8, w_77_11, w_77_12, w_77_13, w_77_16, w_77_19, w_77_20, w_77_23, w_77_26, w_77_29, w_77_31, w_77_34, w_77_35, w_77_36, w_77_37, w_77_38, w_77_40, w_77_43, w_77_46, w_77_48, w_77_49, w_77_51, w_77_54, w_77_57, w_77_58, w_77_60, w_77_63, w_77_66, w_77_67, w_77_68, w_77_69, w_77_71, w_77_74, c_maySetOut, c_within, ne_thr, app1, true_and, c1, c2, c3, e4, e5, b2i_t, show ((1 : Int32) = 0) = False by decide, if_false, if_true, not_false_eq_true]
  rw [w_77_59, w_77_60, w_77_63, w_77_66, w_77_67, w_77_68, w_77_69, w_77_71, hX_W (w := 25), show (26 : Nat) = 25 + 1 from rfl, c_add (Or.inl rfl) hu hn h12]
  simp only [ne_thr, app1, true_and]
  unfold hW
  simp only [en_77, w_77_0, w_77_1, w_77_4, w_77_7, w_77_8, w_77_11, w_77_12, w_77_13, w_77_16, w_77_19, w_77_20, w_77_23, w_77_26, w_77_29, w_77_31, w_77_34, w_77_35, w_77_36, w_77_37, w_77_38, w_77_40, w_77_43, w_77_46, w_77_48, w_77_49, w_77_51, w_77_54, w_77_57, w_77_58, w_77_60, w_77_63, w_77_66, w_77_67, w_77_68, w_77_69, w_77_71, w_77_74]
end
