/-! TEXT: the two constants of the class -/
section
variable {u : Nat × Nat} {L : Nat} {xs : Nat → Int32} {X X' : Nat → Nat → Int32} {Z : Nat → Nat → Int64} {K : List Value → AH → Prop} {V W : Nat → Nat → Int32}
def wdC (i : Nat) : Int32 := (bytS 0).getD i 0
theorem isLat {a : Nat} (h1 : 1000001 ≤ a) (h2 : a < 1000003) {h : AH} : Call 151 [.ref a] h K ↔ K [.int 1] h := by
  have h3 : a < 1000020 := by omega
  simp (disch := first | assumption | omega | decide) only [en_151, w_151_0, w_151_3, w_151_6, w_151_7, w_151_10, w_151_13, w_151_14, w_151_18, show ((1 : Int32) = 0) = False by decide, if_false, not_true_eq_false, zb1, true_and]
theorem chkI {n : Nat} {i : Nat} {h : AH} (h1 : i < n) (h2 : n < 2147483648) : Call 153 [.int (ic i), .int (ic n)] h K ↔ K [] h := by
  have e1 : (ic i < 0) = False := ic_neg (by omega)
  have e2 : (ic i < ic n) = True := by rw [ic_lt (by omega) h2]; exact eq_true h1
  simp only [en_153, w_153_0, w_153_1, w_153_2, w_153_5, en_154, w_154_0, w_154_1, w_154_4, w_154_5, w_154_6, e1, e2, if_true, if_false, w_154_16, w_154_17, ne_thr, app1, true_and, w_153_8, w_153_9]
theorem wdC_c : ∀ i, i < 88 → narrow .char (.int (((wdC i &&& 255).toUInt32 % 65536).toInt32)) = .int (((wdC i &&& 255).toUInt32 % 65536).toInt32) ∧ ((wdC i &&& 255).toUInt32 % 65536).toInt32 = wdC i := by
  intro i hi
  have : ∀ i : Fin 88, narrow .char (.int (((wdC i.1 &&& 255).toUInt32 % 65536).toInt32)) = .int (((wdC i.1 &&& 255).toUInt32 % 65536).toInt32) ∧ ((wdC i.1 &&& 255).toUInt32 % 65536).toInt32 = wdC i.1 := by decide +kernel
  exact this ⟨i, hi⟩
theorem c_charAt {i : Nat} (hi : i < 88) : Call 150 [.ref 1000001, .int (ic i)] (hX u L xs X Z) K ↔ K [.int (wdC i)] (hX u L xs X Z) := by
  obtain ⟨q1, q2⟩ := wdC_c i hi
  have hb : inB (ic i) (lenS (1000011 - 1000011)) = true := by rw [inB_ic (by omega)]; exact hi
  have q3 : narrow .char (.int (wdC i)) = .int (wdC i) := by rw [q2] at q1; exact q1
  have q3' : (narrow .char (.int (wdC i)) = .int (wdC i)) = True := eq_true q3
  rw [en_150, w_150_0 (by decide), w_150_1 (by decide) (by decide), isLat (by decide) (by decide)]
  simp only [ne_thr, app1, true_and, w_150_4, show ((1 : Int32) = 0) = False by decide, if_false]
  rw [w_150_7 (by decide), w_150_8 (by decide) (by decide)]
  simp only [w_150_11, show 1000001 + 10 = 1000011 from rfl, w_150_12, en_152, w_152_0]
  rw [w_152_1 (by decide), w_152_2 (by decide) (by decide), w_152_3, show Int32.ofNat (lenS (1000011 - 1000011)) = ic 88 from rfl, chkI hi (by decide)]
  simp only [app0, ne_thr0, true_and]
  rw [w_152_6 (by decide), w_152_7, w_152_8 (by decide) (by decide) hb, w_152_9, w_152_12, w_152_13, w_152_14]
  rw [ic_clamp (by omega), show (bytS (1000011 - 1000011)).getD i 0 = wdC i from rfl, q2]
  simp only [q3', true_and, ne_thr, app1, w_150_15]
theorem w_156_14' {l0 l1 l2 : Value} {Q : List Value → AH → Prop} {a1 : Nat} {r1 : Int32} {r2 : Int32} (h1 : 1000001 ≤ a1) (h2 : a1 < 1000003) {h : AH} : WP 156 0 14 [l0, l1, l2] [.ref a1, .int r1, .int r2, .ref 1000012] h Q ↔ Call 157 [.ref a1] h (fun rv h' => rv ≠ [thr] ∧ WP 156 0 17 [l0, l1, l2] (rv ++ [.int r1, .int r2, .ref 1000012]) h' Q) := w_callV (k' := 157) (as := [.ref a1]) (r := [.int r1, .int r2, .ref 1000012]) (show decode (mCode 156) 14 = .ok (.invokevirtual 505, 3) by decide +kernel) (by decide +kernel) rfl rfl (Nat.le_of_ble_eq_true rfl) (recvS rfl h1 h2) rfl rfl (Nat.le_of_ble_eq_true rfl) (by show rk 157 0 < rk 156 0; decide +kernel)
theorem w_156_17' {l0 l1 l2 : Value} {Q : List Value → AH → Prop} {a2 : Int32} {a3 : Int32} {a4 : Int32} {h : AH} : WP 156 0 17 [l0, l1, l2] [.int a4, .int a3, .int a2, .ref 1000012] h Q ↔ Call 159 [.ref 1000012, .int a2, .int a3, .int a4] h (fun rv h' => rv ≠ [thr] ∧ WP 156 0 20 [l0, l1, l2] (rv ++ []) h' Q) := w_callS (k' := 159) (kd := 1) (as := [.ref 1000012, .int a2, .int a3, .int a4]) (r := []) (show decode (mCode 156) 17 = .ok (.invokestatic 637, 3) by decide +kernel) (by decide +kernel) (by decide) rfl rfl (Nat.le_of_ble_eq_true rfl) rfl rfl (Nat.le_of_ble_eq_true rfl) (by show rk 159 0 < rk 156 0; decide +kernel)
def sgC (i : Nat) : Int32 := (bytS 1).getD i 0
/-- where a sign stands among the seven -/
def sgF (v : Int32) : Nat → Nat → Int32
  | 0, _ => -1
  | d + 1, k => if sgC k = v then ic k else sgF v d (k + 1)
theorem l_idx {v c : Int32} : ∀ d k, k + d = 7 → (WP 161 0 7 [.ref 1000012, .int c, .int 0, .int (ic 7), .int v, .int (ic k)] [] (hX u L xs X Z) K ↔ K [.int (sgF v d k)] (hX u L xs X Z)) := by
  intro d
  induction d with
  | zero =>
    intro k hk
    have e : k = 7 := by omega
    subst e
    have e1 : (ic 7 ≤ ic 7) = True := by decide
    simp only [w_161_7, w_161_9, w_161_10, e1, if_true, w_161_31, w_161_32]
    rfl
  | succ d ih =>
    intro k hk
    have e1 : (ic 7 ≤ ic k) = False := by rw [ic_le (by omega) (by omega)]; exact eq_false (by omega)
    have hb : inB (ic k) (lenS (1000012 - 1000011)) = true := by rw [inB_ic (by omega)]; show k < 7; omega
    simp only [w_161_7, w_161_9, w_161_10, e1, if_false]
    rw [w_161_13 (by decide), w_161_14, w_161_16 (by decide) (by decide) hb, w_161_17, w_161_19, ic_clamp (by omega), show (bytS (1000012 - 1000011)).getD k 0 = sgC k from rfl]
    unfold sgF
    by_cases c : sgC k = v
    · rw [if_neg (by simp [c]), if_pos c, w_161_22, w_161_24]
    · rw [if_pos c, if_neg c, w_161_25, w_161_28, ic_add1, ih (k + 1) (by omega)]
theorem c_indexOf {m : Nat} (hm : m < 127) : Call 155 [.ref 1000002, .int (ic m)] (hX u L xs X Z) K ↔ K [.int (sgF (ic m) 7 0)] (hX u L xs X Z) := by
  have e8 : (ic m).toInt8.toInt32 = ic m := by
    have : ∀ m : Fin 127, (ic m.1).toInt8.toInt32 = ic m.1 := by decide +kernel
    exact this ⟨m, hm⟩
  have e0 : (ic m < 0) = False := ic_neg (by omega)
  have e255 : (255 < ic m) = False := by rw [show (255 : Int32) = ic 255 from rfl, ic_lt (by omega) (by omega)]; exact eq_false (by omega)
  have s0 : ((7 : Int32) >>> ((0 : Int32) &&& 31)) = 7 := by decide
  rw [en_155, w_155_0 (by decide), w_155_1, w_155_2, w_155_3 (by decide) (by decide), en_156, w_156_0 (by decide), w_156_1 (by decide) (by decide), isLat (by decide) (by decide)]
  simp only [ne_thr, app1, true_and, w_156_4, show ((1 : Int32) = 0) = False by decide, if_false]
  rw [w_156_7 (by decide), w_156_8 (by decide) (by decide), w_156_11, w_156_12, w_156_13 (by decide), w_156_14' (by decide) (by decide)]
  rw [en_157, w_157_0 (by decide), w_157_1 (by decide) (by decide), w_157_4 (by decide) (by decide), w_157_5 (by decide), w_157_6 (by decide) (by decide), en_158, w_158_0]
  simp only [w_158_3, show ((1 : Int32) = 0) = False by decide, if_false]
  rw [w_158_6 (by decide), w_158_7 (by decide) (by decide), w_158_10, w_158_14]
  have nb : (narrow .byte (.int 0) = .int 0) = True := by decide
  simp only [nb, true_and, ne_thr, app1, w_157_9, w_157_10, show Int32.ofNat (lenS (1000002 + 10 - 1000011)) = 7 from rfl, s0, List.cons_append, List.nil_append]
  rw [w_156_17', en_159, w_159_0, w_159_1, en_160]
  simp only [w_160_0, w_160_1, e0, if_false, w_160_4, w_160_5, w_160_8, e255, w_160_11, w_160_12, w_160_16, zb1, true_and, ne_thr, app1, w_159_4, show ((1 : Int32) = 0) = False by decide, not_false_eq_true, if_true, w_159_9, w_159_10, w_159_11, w_159_14, w_159_15, show (if (0 : Int32) < 0 then (0 : Int32) else 0) = 0 by decide]
  rw [w_159_16 (by decide), w_159_17 (by decide) (by decide)]
  simp only [w_159_18, show Int32.ofNat (lenS (1000012 - 1000011)) = 7 from rfl, w_159_21, w_159_22, w_159_23, w_159_24, show ((0 : Int32) < (if (7 : Int32) < 7 then 7 else 7)) = True by decide, show (if (7 : Int32) < 7 then (7 : Int32) else 7) = ic 7 by decide, show ((0 : Int32) < ic 7) = True by decide, if_true]
  rw [w_159_29 (by decide), w_159_30, w_159_31, w_159_32, w_159_33, en_161]
  simp only [w_161_0, w_161_1, e8, w_161_2, w_161_4, w_161_5]
  have g := l_idx (u := u) (L := L) (xs := xs) (X := X) (Z := Z) (v := ic m) (c := ic m) (K := fun rv h' => rv ≠ [thr] ∧ WP 159 0 36 [.ref 1000012, .int (ic m), .int 0, .int (ic 7)] (rv ++ []) h' (fun rv h' => rv ≠ [thr] ∧ WP 156 0 20 [.ref 1000002, .int (ic m), .int 0] (rv ++ []) h' (fun rv h' => rv ≠ [thr] ∧ WP 155 0 6 [.ref 1000002, .int (ic m)] (rv ++ []) h' K))) 7 0 (by omega)
  rw [← ic_z] at g
  rw [g]
  simp only [ne_thr, app1, true_and, w_159_36, w_156_20, w_156_36, w_155_6]
end
