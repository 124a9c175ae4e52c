/-! THE SIMPLE CALLS, OF BOTH SIDES: run -/
section
variable {u : Nat × Nat} {L : Nat} {xs : Nat → Int32} {X X' : Nat → Nat → Int32} {Z : Nat → Nat → Int64} {K : List Value → AH → Prop} {V W : Nat → Nat → Int32} {w : Nat}
def adR (V : Nat → Nat → Int32) (n : Nat) (up mi se ro : Int32) : Nat → Nat → Int32 := sv (sv (sv (sv (sv (sv (sv V 2 n up) 5 n mi) 3 n se) 4 n ro) 6 n 0) 7 n (-1)) 1 0 (ic (n + 1))
theorem sv_10 {a i : Nat} {v : Int32} (h : 1 ≠ a) : sv V a i v 1 0 = V 1 0 := by rw [sv_a h]
theorem c_add (hw : isWd w) {n : Nat} {up mi se ro : Int32} (hu : up = 0 ∨ up = 1) (hn : V 1 0 = ic n) (h12 : n < 12) : Call 1 [.ref (w + 1), .int up, .int mi, .int se, .int ro] (hW u L xs X Z w V) K ↔ K [.int (ic n)] (hW u L xs X Z w (adR V n up mi se ro)) := by
  have e : (n < 12) = True := eq_true h12
  have pn : vp_nar .boolean up = up := by rcases hu with rfl | rfl <;> rfl
  have s1 : ic (n + 1) - 1 = ic n := by rw [ic_pred (by omega)]; rfl
  have x4 : ∀ Y : Nat → Nat → Int32, (sv Y 1 0 (ic (n + 1))) 1 0 = ic (n + 1) := fun Y => sv_s
  simp (disch := first | assumption | omega | decide) only [en_1, w_1_0, w_1_1, w_1_4, w_1_6, w_1_9, w_1_10, w_1_11, w_1_12, w_1_15, w_1_16, w_1_19, w_1_20, w_1_21, w_1_22, w_1_25, w_1_26, w_1_29, w_1_30, w_1_31, w_1_32, w_1_35, w_1_36, w_1_39, w_1_40, w_1_41, w_1_42, w_1_45, w_1_46, w_1_49, w_1_51, w_1_52, w_1_53, w_1_56, w_1_57, w_1_60, w_1_61, w_1_62, w_1_63, w_1_66, w_1_67, w_1_70, w_1_71, w_1_72, w_1_73, w_1_74, w_1_77, w_1_78, w_1_79, w_1_82, w_1_83, w_1_86, w_1_87, w_1_88, hn, show (12 : Int32) = ic 12 from rfl, ic_lt, e, if_true, inB_ic, ic_clamp, true_and, sv_d, pn, sv_10, ic_add1, x4, s1, adR]
theorem adR_ne {n a : Nat} {up mi se ro : Int32} (h1 : a ≠ 1) (h2 : a ≠ 2) (h3 : a ≠ 3) (h4 : a ≠ 4) (h5 : a ≠ 5) (h6 : a ≠ 6) (h7 : a ≠ 7) : adR V n up mi se ro a = V a := by
  unfold adR
  rw [sv_a h1, sv_a h7, sv_a h6, sv_a h4, sv_a h3, sv_a h5, sv_a h2]
theorem adR_o {n a k : Nat} {up mi se ro : Int32} (h1 : a ≠ 1) (h : k ≠ n) : adR V n up mi se ro a k = V a k := by
  unfold adR
  rw [sv_a h1]
  simp only [sv_at, h, and_false, if_false]
theorem adR_WI {np n : Nat} {up mi se ro : Int32} (hn : nrN V = n) (h12 : n < 12) (hnp : 2 ≤ np) (h : WI np V) : WI np (adR V n up mi se ro) := by
  obtain ⟨h1, h2, h3, h4⟩ := h
  have e10 : adR V n up mi se ro 1 0 = ic (n + 1) := by unfold adR; exact sv_s
  have en : nrN (adR V n up mi se ro) = n + 1 := by unfold nrN; rw [e10, ic_clamp (by omega)]
  have e14 : adR V n up mi se ro 14 = V 14 := adR_ne (by decide) (by decide) (by decide) (by decide) (by decide) (by decide) (by decide)
  have el : nlF (adR V n up mi se ro) = nlF V := by unfold nlF; rw [e14]
  have e6 : adR V n up mi se ro 6 n = 0 := by unfold adR; rw [sv_a (by decide), sv_a (by decide), sv_s]
  have e8 : adR V n up mi se ro 8 n = 0 := by
    rw [adR_ne (by decide) (by decide) (by decide) (by decide) (by decide) (by decide) (by decide)]
    have q := h2.2.2 n h12 (by omega)
    exact (h2.2.1 n h12).2.2 (by rw [q]; decide)
  refine ⟨?_, ⟨fun _ => hnp, fun k hk => ?_, fun k hk hk2 => ?_⟩, LI_of e14 (adR_ne (by decide) (by decide) (by decide) (by decide) (by decide) (by decide) (by decide)) (adR_ne (by decide) (by decide) (by decide) (by decide) (by decide) (by decide) (by decide)) h3, CI_of (adR_ne (by decide) (by decide) (by decide) (by decide) (by decide) (by decide) (by decide)) (adR_ne (by decide) (by decide) (by decide) (by decide) (by decide) (by decide) (by decide)) e14 (adR_ne (by decide) (by decide) (by decide) (by decide) (by decide) (by decide) (by decide)) (adR_ne (by decide) (by decide) (by decide) (by decide) (by decide) (by decide) (by decide)) (adR_ne (by decide) (by decide) (by decide) (by decide) (by decide) (by decide) (by decide)) h4⟩
  · unfold VOK
    rw [en, el, e10, e14]
    exact ⟨rfl, by omega, h1.2.2.1, h1.2.2.2⟩
  · by_cases c : k = n
    · subst c
      unfold VI1
      rw [e6, e8]
      exact ⟨fun q => by rcases q with q | q <;> exact absurd q (by decide), fun q => absurd q (by decide), fun _ => rfl⟩
    · exact VI1_of (adR_o (by decide) c) (adR_o (by decide) c) (adR_o (by decide) c) (adR_o (by decide) c) (h2.2.1 k hk)
  · rw [en] at hk2
    rw [adR_o (by decide) (by omega)]
    exact h2.2.2 k hk (by omega)
end
