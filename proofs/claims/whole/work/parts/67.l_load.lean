/-! THE SIMPLE CALLS, OF BOTH SIDES: load -/
section
variable {u : Nat × Nat} {L : Nat} {xs : Nat → Int32} {X X' : Nat → Nat → Int32} {Z : Nat → Nat → Int64} {K : List Value → AH → Prop} {V W : Nat → Nat → Int32} {w : Nat}
def adL (V : Nat → Nat → Int32) (n : Nat) (kd a b mi : Int32) : Nat → Nat → Int32 := sv (sv (sv (sv (sv (sv (sv V 15 n kd) 16 n a) 17 n b) 18 n mi) 19 n 0) 20 n (-1)) 14 0 (ic (n + 1))
theorem sv_14 {a i : Nat} {v : Int32} (h : 14 ≠ a) : sv V a i v 14 0 = V 14 0 := by rw [sv_a h]
theorem c_addL (hw : isWd w) {n : Nat} {kd a b mi : Int32} (hn : V 14 0 = ic n) (h80 : n < 80) : Call 13 [.ref (w + 14), .int kd, .int a, .int b, .int mi] (hW u L xs X Z w V) K ↔ K [.int (ic n)] (hW u L xs X Z w (adL V n kd a b mi)) := by
  have e : (n < 80) = True := eq_true h80
  have s1 : ic (n + 1) - 1 = ic n := by rw [ic_pred (by omega)]; rfl
  have x4 : ∀ Y : Nat → Nat → Int32, (sv Y 14 0 (ic (n + 1))) 14 0 = ic (n + 1) := fun Y => sv_s
  simp (disch := first | assumption | omega | decide) only [en_13, w_13_0, w_13_1, w_13_4, w_13_6, w_13_9, w_13_10, w_13_11, w_13_12, w_13_15, w_13_16, w_13_19, w_13_20, w_13_21, w_13_22, w_13_25, w_13_26, w_13_29, w_13_30, w_13_31, w_13_32, w_13_35, w_13_36, w_13_39, w_13_40, w_13_41, w_13_42, w_13_45, w_13_46, w_13_49, w_13_51, w_13_52, w_13_53, w_13_56, w_13_57, w_13_60, w_13_61, w_13_62, w_13_63, w_13_66, w_13_67, w_13_70, w_13_71, w_13_72, w_13_73, w_13_74, w_13_77, w_13_78, w_13_79, w_13_82, w_13_83, w_13_86, w_13_87, w_13_88, hn, show (80 : Int32) = ic 80 from rfl, ic_lt, e, if_true, inB_ic, ic_clamp, true_and, sv_d, sv_14, ic_add1, x4, s1, adL]
theorem adL_ne {n c : Nat} {kd a b mi : Int32} (h14 : c ≠ 14) (h15 : c ≠ 15) (h16 : c ≠ 16) (h17 : c ≠ 17) (h18 : c ≠ 18) (h19 : c ≠ 19) (h20 : c ≠ 20) : adL V n kd a b mi c = V c := by
  unfold adL
  rw [sv_a h14, sv_a h20, sv_a h19, sv_a h18, sv_a h17, sv_a h16, sv_a h15]
theorem adL_o {n c k : Nat} {kd a b mi : Int32} (h14 : c ≠ 14) (h : k ≠ n) : adL V n kd a b mi c k = V c k := by
  unfold adL
  rw [sv_a h14]
  simp only [sv_at, h, and_false, if_false]
end
