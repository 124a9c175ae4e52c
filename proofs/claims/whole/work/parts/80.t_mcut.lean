/-! TEXT: the model cuts the tape -/
section
variable {u : Nat × Nat} {L : Nat} {xs : Nat → Int32} {X X' : Nat → Nat → Int32} {Z Z' : Nat → Nat → Int64} {K : List Value → AH → Prop} {V W : Nat → Nat → Int32} {T : Nat → Int32} {n : Nat}
abbrev isS (v : Int32) : Prop := v = 40 ∨ v = 41 ∨ v = 59 ∨ v = 61 ∨ v = 60 ∨ v = 43 ∨ v = 45
theorem m_isL {v : Int32} {h : AH} : Call 97 [.int v] h K ↔ K [.int (b2i (decide (isL v)))] h := by
  simp only [en_97, w_97_0, w_97_1, w_97_3, w_97_6, w_97_7, w_97_9, w_97_12, w_97_13, w_97_16, w_97_17, zb0, zb1, true_and]
  unfold isL
  by_cases c1 : v < 97
  · simp [c1, b2i]
  · by_cases c2 : 122 < v
    · simp [c1, c2, b2i]
    · simp [c1, c2, b2i]
theorem m_isD {v : Int32} {h : AH} : Call 98 [.int v] h K ↔ K [.int (b2i (decide (isD v)))] h := by
  simp only [en_98, w_98_0, w_98_1, w_98_3, w_98_6, w_98_7, w_98_9, w_98_12, w_98_13, w_98_16, w_98_17, zb0, zb1, true_and]
  unfold isD
  by_cases c1 : v < 48
  · simp [c1, b2i]
  · by_cases c2 : 57 < v
    · simp [c1, c2, b2i]
    · simp [c1, c2, b2i]
theorem m_rank {v : Int32} {h : AH} (hl : isL v) : Call 99 [.int v] h K ↔ K [.int (v - 96)] h := by
  have hl' : decide (isL v) = true := decide_eq_true hl
  simp only [en_99, w_99_0, w_99_1, w_99_4, w_99_7, w_99_8, w_99_10, w_99_11, w_99_15, w_99_17, w_99_18, m_isL, ne_thr, app1, true_and, hl', b2i_t, show ((1 : Int32) = 0) = False by decide, if_false]
theorem m_isS {v : Int32} {h : AH} : Call 100 [.int v] h K ↔ K [.int (b2i (decide (isS v)))] h := by
  have k1 : isS v → (WP 100 0 42 [.int v] [] h K ↔ K [.int (b2i (decide (isS v)))] h) := by
    intro z
    simp only [w_100_42, w_100_43, w_100_47, zb1, true_and, z, decide_true, b2i_t]
  simp only [en_100, w_100_0, w_100_1, w_100_3, w_100_6, w_100_7, w_100_9, w_100_12, w_100_13, w_100_15, w_100_18, w_100_19, w_100_21, w_100_24, w_100_25, w_100_27, w_100_30, w_100_31, w_100_33, w_100_36, w_100_37, w_100_39, w_100_43, w_100_46, w_100_47, zb0, true_and]
  by_cases c1 : v = 40
  · rw [if_pos c1]; exact k1 (Or.inl c1)
  · rw [if_neg c1]
    by_cases c2 : v = 41
    · rw [if_pos c2]; exact k1 (Or.inr (Or.inl c2))
    · rw [if_neg c2]
      by_cases c3 : v = 59
      · rw [if_pos c3]; exact k1 (Or.inr (Or.inr (Or.inl c3)))
      · rw [if_neg c3]
        by_cases c4 : v = 61
        · rw [if_pos c4]; exact k1 (Or.inr (Or.inr (Or.inr (Or.inl c4))))
        · rw [if_neg c4]
          by_cases c5 : v = 60
          · rw [if_pos c5]; exact k1 (Or.inr (Or.inr (Or.inr (Or.inr (Or.inl c5)))))
          · rw [if_neg c5]
            by_cases c6 : v = 43
            · rw [if_pos c6]; exact k1 (Or.inr (Or.inr (Or.inr (Or.inr (Or.inr (Or.inl c6))))))
            · rw [if_neg c6]
              by_cases c7 : v = 45
              · rw [if_neg (by simp [c7])]; exact k1 (Or.inr (Or.inr (Or.inr (Or.inr (Or.inr (Or.inr c7))))))
              · rw [if_pos c7]
                have : ¬ isS v := by unfold isS; simp [c1, c2, c3, c4, c5, c6, c7]
                simp only [this, decide_false, b2i_f]
def haF (T : Nat → Int32) (s : Nat) : Nat → Nat → Int64 → Int64
  | 0, _, v => v
  | d + 1, k, v => haF T s d (k + 1) (if k - s < 8 then 37 * v + (T k - 96).toInt64 else v)
def daF (T : Nat → Int32) (s : Nat) : Nat → Nat → Int64 → Int64
  | 0, _, v => v
  | d + 1, k, v => daF T s d (k + 1) (if k - s < 4 then 10 * v + (T k).toInt64 - 48 else v)
def soT (T : Nat → Int32) (s e : Nat) : Int32 := if isL (T s) then (if 8 < e - s then 4 else 1) else if isD (T s) then (if 4 < e - s then 4 else 2) else (if isS (T s) then 3 else 4)
def vaT (T : Nat → Int32) (s e : Nat) : Int64 := if isL (T s) then haF T s (e - s) s 0 else if isD (T s) then daF T s (e - s) s 0 else (T s).toInt64
theorem l_let {s : Nat} {l1 l3 : Value} (hn : n ≤ 800) (h3 : X 97 3 = ic n) (h98 : ∀ i, i < n → X 98 i = T i) : ∀ d k v, k + d = n → s ≤ k → WP 101 0 129 [.ref 97, l1, .int (ic (enF T 97 122 d k)), l3, .int (ic s), .long (haF T s (enF T 97 122 d k - k) k v), poi] [] (hX u L xs X Z) K → WP 101 0 70 [.ref 97, l1, .int (ic k), l3, .int (ic s), .long v, poi] [] (hX u L xs X Z) K := by
  intro d
  induction d with
  | zero =>
    intro k v hk hs hK
    have e : k = n := by omega
    subst e
    have e1 : (ic k ≤ ic k) = True := by rw [ic_le (by omega) (by omega)]; simp
    simp only [w_101_70, w_101_71, w_101_72, w_101_75, h3, e1, if_true]
    unfold enF at hK
    rw [Nat.sub_self] at hK
    exact hK
  | succ d ih =>
    intro k v hk hs hK
    have e1 : (ic n ≤ ic k) = False := by rw [ic_le (by omega) (by omega)]; exact eq_false (by omega)
    have e8 : (k < 800) = True := eq_true (by omega)
    have ht := h98 k (by omega)
    rw [w_101_70]
    simp (disch := first | assumption | omega) only [w_101_71, w_101_72, w_101_75, h3, e1, if_false, w_101_78, w_101_79, w_101_82, w_101_83, inB_ic, ic_clamp, e8, true_and, ht, w_101_84, m_isL, ne_thr, app1, w_101_87, b2i_z]
    unfold enF at hK
    by_cases c : isL (T k)
    · rw [if_pos (show ¬ T k < 97 ∧ ¬ 122 < T k from c)] at hK
      have hb := (enF_b (T := T) (lo := 97) (hi := 122) d (k + 1)).1
      rw [show enF T 97 122 d (k + 1) - k = (enF T 97 122 d (k + 1) - (k + 1)) + 1 by omega] at hK
      unfold haF at hK
      have q := ih (k + 1) _ (by omega) (by omega) hK
      rw [if_neg (by simp [c])]
      simp (disch := first | assumption | omega) only [w_101_90, w_101_91, w_101_93, ic_subN, w_101_94, w_101_96, show (8 : Int32) = ic 8 from rfl, ic_le]
      by_cases c8 : k - s < 8
      · rw [if_pos c8] at q
        rw [if_neg (by omega)]
        simp (disch := first | assumption | omega) only [w_101_99, w_101_102, w_101_104, w_101_105, w_101_106, w_101_109, w_101_110, inB_ic, ic_clamp, e8, true_and, ht, w_101_111, m_rank c, ne_thr, app1, List.cons_append, List.nil_append, w_101_114, w_101_115, w_101_116, w_101_121, w_101_123, w_101_126, ic_add1]
        exact q
      · rw [if_neg c8] at q
        rw [if_pos (by omega), w_101_119, w_101_121, w_101_123, w_101_126, ic_add1]
        exact q
    · rw [if_neg (show ¬ (¬ T k < 97 ∧ ¬ 122 < T k) from c), Nat.sub_self] at hK
      rw [if_pos (by simp [c])]
      exact hK
theorem l_dig {s : Nat} {l1 l3 : Value} (hn : n ≤ 800) (h3 : X 97 3 = ic n) (h98 : ∀ i, i < n → X 98 i = T i) : ∀ d k v, k + d = n → s ≤ k → WP 101 0 218 [.ref 97, l1, .int (ic (enF T 48 57 d k)), l3, .int (ic s), .long (daF T s (enF T 48 57 d k - k) k v), poi] [] (hX u L xs X Z) K → WP 101 0 159 [.ref 97, l1, .int (ic k), l3, .int (ic s), .long v, poi] [] (hX u L xs X Z) K := by
  intro d
  induction d with
  | zero =>
    intro k v hk hs hK
    have e : k = n := by omega
    subst e
    have e1 : (ic k ≤ ic k) = True := by rw [ic_le (by omega) (by omega)]; simp
    simp only [w_101_159, w_101_160, w_101_161, w_101_164, h3, e1, if_true]
    unfold enF at hK
    rw [Nat.sub_self] at hK
    exact hK
  | succ d ih =>
    intro k v hk hs hK
    have e1 : (ic n ≤ ic k) = False := by rw [ic_le (by omega) (by omega)]; exact eq_false (by omega)
    have e8 : (k < 800) = True := eq_true (by omega)
    have ht := h98 k (by omega)
    rw [w_101_159]
    simp (disch := first | assumption | omega) only [w_101_160, w_101_161, w_101_164, h3, e1, if_false, w_101_167, w_101_168, w_101_171, w_101_172, inB_ic, ic_clamp, e8, true_and, ht, w_101_173, m_isD, ne_thr, app1, w_101_176, b2i_z]
    unfold enF at hK
    by_cases c : isD (T k)
    · rw [if_pos (show ¬ T k < 48 ∧ ¬ 57 < T k from c)] at hK
      have hb := (enF_b (T := T) (lo := 48) (hi := 57) d (k + 1)).1
      rw [show enF T 48 57 d (k + 1) - k = (enF T 48 57 d (k + 1) - (k + 1)) + 1 by omega] at hK
      unfold daF at hK
      have q := ih (k + 1) _ (by omega) (by omega) hK
      rw [if_neg (by simp [c])]
      simp (disch := first | assumption | omega) only [w_101_179, w_101_180, w_101_182, ic_subN, w_101_183, w_101_184, show (4 : Int32) = ic 4 from rfl, ic_le]
      by_cases c8 : k - s < 4
      · rw [if_pos c8] at q
        rw [if_neg (by omega)]
        simp (disch := first | assumption | omega) only [w_101_187, w_101_190, w_101_192, w_101_193, w_101_194, w_101_197, w_101_198, inB_ic, ic_clamp, e8, true_and, ht, w_101_199, w_101_200, w_101_201, w_101_204, w_101_205, w_101_210, w_101_212, w_101_215, ic_add1]
        exact q
      · rw [if_neg c8] at q
        rw [if_pos (by omega), w_101_208, w_101_210, w_101_212, w_101_215, ic_add1]
        exact q
    · rw [if_neg (show ¬ (¬ T k < 48 ∧ ¬ 57 < T k) from c), Nat.sub_self] at hK
      rw [if_pos (by simp [c])]
      exact hK
def svL (Z : Nat → Nat → Int64) (a i : Nat) (v : Int64) : Nat → Nat → Int64 := va_up Z a (vp_updL (Z a) i v)
theorem svL_d {a i : Nat} {v : Int64} : va_up Z a (vp_updL (Z a) i v) = svL Z a i v := rfl
theorem svL_a {a b i : Nat} {v : Int64} (h : b ≠ a) : svL Z a i v b = Z b := by simp [svL, va_up, h]
theorem svL_i {a i j : Nat} {v : Int64} (h : j ≠ i) : svL Z a i v a j = Z a j := by simp [svL, va_up, vp_updL, h]
theorem svL_s {a i : Nat} {v : Int64} : svL Z a i v a i = v := by simp [svL, va_up, vp_updL]
def MKs (T : Nat → Int32) (l : List (Nat × Nat)) (t : Nat) (X : Nat → Nat → Int32) (Z : Nat → Nat → Int64) : Prop := ∀ i, i < l.length → X 99 (t + i) = soT T (l.getD i (0, 0)).1 (l.getD i (0, 0)).2 ∧ X 100 (t + i) = ic (l.getD i (0, 0)).1 ∧ Z 101 (t + i) = vaT T (l.getD i (0, 0)).1 (l.getD i (0, 0)).2
def MKf (t : Nat) (X X' : Nat → Nat → Int32) (Z Z' : Nat → Nat → Int64) : Prop := (∀ a, a ≠ 99 → a ≠ 100 → X' a = X a) ∧ (∀ i, i < t → X' 99 i = X 99 i ∧ X' 100 i = X 100 i ∧ Z' 101 i = Z 101 i) ∧ ∀ a, a ≠ 101 → Z' a = Z a
def mdT (X : Nat → Nat → Int32) (t : Nat) (s so : Int32) : Nat → Nat → Int32 := sv (sv X 100 t s) 99 t so
theorem MK_cons {l : List (Nat × Nat)} {t s e : Nat} (f : MKf (t + 1) (mdT X t (ic s) (soT T s e)) X' (svL Z 101 t (vaT T s e)) Z') (g : MKs T l (t + 1) X' Z') : MKs T ((s, e) :: l) t X' Z' ∧ MKf t X X' Z Z' := by
  obtain ⟨f1, f2, f3⟩ := f
  refine ⟨?_, ?_, ?_, ?_⟩
  · intro i hi
    cases i with
    | zero =>
      obtain ⟨a1, a2, a3⟩ := f2 t (by omega)
      unfold mdT at a1 a2
      rw [sv_s] at a1
      rw [sv_a (by decide), sv_s] at a2
      rw [svL_s] at a3
      exact ⟨a1, a2, a3⟩
    | succ i =>
      have := g i (by simpa using hi)
      rw [show t + 1 + i = t + (i + 1) by omega] at this
      exact this
  · intro a a1 a2
    rw [f1 a a1 a2]
    unfold mdT
    rw [sv_a a1, sv_a a2]
  · intro i hi
    obtain ⟨a1, a2, a3⟩ := f2 i (by omega)
    unfold mdT at a1 a2
    rw [sv_i (by omega), sv_a (by decide)] at a1
    rw [sv_a (by decide), sv_i (by omega)] at a2
    rw [svL_i (by omega)] at a3
    exact ⟨a1, a2, a3⟩
  · intro a ha
    rw [f3 a ha, svL_a ha]
theorem l_mcut (hn : n ≤ 800) : ∀ d k t X Z l3 l4 l5 l6, n - k ≤ d → t ≤ k → X 97 3 = ic n → (∀ i, i < n → X 98 i = T i) → k ≤ n → (∀ X' Z' l2 l3 l4 l5 l6, MKs T (lexF T n d k) t X' Z' → MKf t X X' Z Z' → t + (lexF T n d k).length ≤ n → WP 101 0 279 [.ref 97, .int (ic (t + (lexF T n d k).length)), l2, l3, l4, l5, l6] [] (hX u L xs X' Z') K) → WP 101 0 17 [.ref 97, .int (ic t), .int (ic k), l3, l4, l5, l6] [] (hX u L xs X Z) K := by
  intro d
  induction d with
  | zero =>
    intro k t X Z l3 l4 l5 l6 hd ht h3 h98 hkn hK
    have e1 : (ic n ≤ ic k) = True := by rw [ic_le (by omega) (by omega)]; exact eq_true (by omega)
    simp only [w_101_17, w_101_18, w_101_19, w_101_22, h3, e1, if_true]
    exact hK X Z _ _ _ _ _ (fun i hi => absurd hi (by simp [lexF])) ⟨fun _ _ _ => rfl, fun _ _ => ⟨rfl, rfl, rfl⟩, fun _ _ => rfl⟩ (by simp [lexF]; omega)
  | succ d ih =>
    intro k t X Z l3 l4 l5 l6 hd ht h3 h98 hkn hK
    unfold lexF at hK
    by_cases c0 : n ≤ k
    · have e1 : (ic n ≤ ic k) = True := by rw [ic_le (by omega) (by omega)]; exact eq_true (by omega)
      rw [if_pos c0] at hK
      simp only [w_101_17, w_101_18, w_101_19, w_101_22, h3, e1, if_true]
      exact hK X Z _ _ _ _ _ (fun i hi => absurd hi (by simp)) ⟨fun _ _ _ => rfl, fun _ _ => ⟨rfl, rfl, rfl⟩, fun _ _ => rfl⟩ (by simp; omega)
    · rw [if_neg c0] at hK
      have e1 : (ic n ≤ ic k) = False := by rw [ic_le (by omega) (by omega)]; exact eq_false (by omega)
      have e8 : (k < 800) = True := eq_true (by omega)
      have t8 : (t < 802) = True := eq_true (by omega)
      have hk98 := h98 k (by omega)
      obtain ⟨b1, b2⟩ := eF_b (T := T) (n := n) (k := k) (by omega)
      rw [w_101_17]
      simp (disch := first | assumption | omega) only [w_101_18, w_101_19, w_101_22, h3, e1, if_false, w_101_25, w_101_26, w_101_29, w_101_30, inB_ic, ic_clamp, e8, true_and, hk98, w_101_31, w_101_32, w_101_33, w_101_35]
      by_cases b : isB (T k)
      · rw [if_pos b] at hK
        have ee : eF T n k = k + 1 := by unfold eF; rw [if_neg (B_nL b).1, if_neg (B_nL b).2]
        have fin : WP 101 0 44 [.ref 97, .int (ic t), .int (ic k), .int (T k), l4, l5, l6] [] (hX u L xs X Z) K := by
          rw [w_101_44, w_101_47, ic_add1, ← ee]
          exact ih _ t X Z _ _ _ _ (by omega) (by omega) h3 h98 b2 hK
        by_cases b1 : T k = 10
        · rw [if_pos b1]; exact fin
        · have b2 : T k = 32 := b.resolve_left b1
          rw [if_neg b1, w_101_38, w_101_39, w_101_41, if_neg (by simp [b2])]; exact fin
      · rw [if_neg b] at hK
        have n1 : ¬ T k = 10 := fun h => b (Or.inl h)
        have n2 : ¬ T k = 32 := fun h => b (Or.inr h)
        -- behind a token
        have tok : ∀ l3 l4 l6, WP 101 0 265 [.ref 97, .int (ic t), .int (ic (eF T n k)), l3, l4, .long (vaT T k (eF T n k)), l6] [] (hX u L xs (mdT X t (ic k) (soT T k (eF T n k))) Z) K := by
          intro l3 l4 l6
          rw [w_101_265]
          simp (disch := first | assumption | omega) only [w_101_266, w_101_269, w_101_270, w_101_272, inB_ic, ic_clamp, t8, true_and, svL_d, w_101_273, w_101_276, ic_add1]
          refine ih (eF T n k) (t + 1) _ _ _ _ _ _ (by omega) (by omega) (by unfold mdT; rw [sv_a (by decide), sv_a (by decide)]; exact h3) (fun i hi => by unfold mdT; rw [sv_a (by decide), sv_a (by decide)]; exact h98 i hi) b2 (fun X' Z' l2 l3 l4 l5 l6 g f hl => ?_)
          obtain ⟨q1, q2⟩ := MK_cons f g
          have := hK X' Z' l2 l3 l4 l5 l6 q1 q2 (by rw [List.length_cons]; omega)
          rw [List.length_cons, show t + ((lexF T n d (eF T n k)).length + 1) = t + 1 + (lexF T n d (eF T n k)).length by omega] at this
          exact this
        have h3' : sv X 100 t (ic k) 97 3 = ic n := by rw [sv_a (by decide)]; exact h3
        have h98' : ∀ i, i < n → sv X 100 t (ic k) 98 i = T i := fun i hi => by rw [sv_a (by decide)]; exact h98 i hi
        rw [if_neg n1, w_101_38, w_101_39, w_101_41, if_pos n2]
        simp (disch := first | assumption | omega) only [w_101_50, w_101_51, w_101_53, w_101_54, w_101_56, w_101_57, w_101_60, w_101_61, w_101_62, inB_ic, ic_clamp, t8, true_and, sv_d, w_101_63, w_101_64, m_isL, ne_thr, app1, w_101_67, b2i_z]
        by_cases cl : isL (T k)
        · have ee : eF T n k = enF T 97 122 (n - k) k := by unfold eF; rw [if_pos cl]
          have es : soT T k (eF T n k) = if 8 < eF T n k - k then 4 else 1 := by unfold soT; rw [if_pos cl]
          have ev : vaT T k (eF T n k) = haF T k (eF T n k - k) k 0 := by unfold vaT; rw [if_pos cl]
          rw [es, ev] at tok
          rw [if_neg (by simp [cl])]
          refine l_let hn h3' h98' (n - k) k 0 (by omega) (by omega) ?_
          rw [← ee]
          unfold mdT at tok
          by_cases c8 : 8 < eF T n k - k
          · simp only [if_pos c8] at tok
            simp (disch := first | assumption | omega) only [w_101_129, w_101_130, w_101_133, w_101_134, w_101_135, w_101_137, ic_subN, w_101_138, w_101_140, show (8 : Int32) = ic 8 from rfl, ic_le]
            rw [if_neg (by omega)]
            simp (disch := first | assumption | omega) only [w_101_143, w_101_144, w_101_148, inB_ic, ic_clamp, t8, true_and, sv_d, w_101_149]
            exact tok _ _ _
          · simp only [if_neg c8] at tok
            simp (disch := first | assumption | omega) only [w_101_129, w_101_130, w_101_133, w_101_134, w_101_135, w_101_137, ic_subN, w_101_138, w_101_140, show (8 : Int32) = ic 8 from rfl, ic_le]
            rw [if_pos (by omega)]
            simp (disch := first | assumption | omega) only [w_101_147, w_101_148, inB_ic, ic_clamp, t8, true_and, sv_d, w_101_149]
            exact tok _ _ _
        · rw [if_pos (by simp [cl])]
          simp (disch := first | assumption | omega) only [w_101_152, w_101_153, m_isD, ne_thr, true_and, app1, w_101_156, b2i_z]
          by_cases cd : isD (T k)
          · have ee : eF T n k = enF T 48 57 (n - k) k := by unfold eF; rw [if_neg cl, if_pos cd]
            have es : soT T k (eF T n k) = if 4 < eF T n k - k then 4 else 2 := by unfold soT; rw [if_neg cl, if_pos cd]
            have ev : vaT T k (eF T n k) = daF T k (eF T n k - k) k 0 := by unfold vaT; rw [if_neg cl, if_pos cd]
            rw [es, ev] at tok
            rw [if_neg (by simp [cd])]
            refine l_dig hn h3' h98' (n - k) k 0 (by omega) (by omega) ?_
            rw [← ee]
            unfold mdT at tok
            by_cases c8 : 4 < eF T n k - k
            · simp only [if_pos c8] at tok
              simp (disch := first | assumption | omega) only [w_101_218, w_101_219, w_101_222, w_101_223, w_101_224, w_101_226, ic_subN, w_101_227, w_101_228]
              rw [if_neg (by rw [show (4 : Int32) = ic 4 from rfl, ic_le (by omega) (by omega)]; omega)]
              simp (disch := first | assumption | omega) only [w_101_231, w_101_232, w_101_236, inB_ic, ic_clamp, t8, true_and, sv_d, w_101_237]
              exact tok _ _ _
            · simp only [if_neg c8] at tok
              simp (disch := first | assumption | omega) only [w_101_218, w_101_219, w_101_222, w_101_223, w_101_224, w_101_226, ic_subN, w_101_227, w_101_228]
              rw [if_pos (by rw [show (4 : Int32) = ic 4 from rfl, ic_le (by omega) (by omega)]; omega)]
              simp (disch := first | assumption | omega) only [w_101_235, w_101_236, inB_ic, ic_clamp, t8, true_and, sv_d, w_101_237]
              exact tok _ _ _
          · have ee : eF T n k = k + 1 := by unfold eF; rw [if_neg cl, if_neg cd]
            have es : soT T k (eF T n k) = if isS (T k) then 3 else 4 := by unfold soT; rw [if_neg cl, if_neg cd]
            have ev : vaT T k (eF T n k) = (T k).toInt64 := by unfold vaT; rw [if_neg cl, if_neg cd]
            rw [es, ev, ee] at tok
            unfold mdT at tok
            rw [if_pos (by simp [cd])]
            simp (disch := first | assumption | omega) only [w_101_240, w_101_241, w_101_242, w_101_244, w_101_245, w_101_248, w_101_249, w_101_250, m_isS, ne_thr, true_and, app1, List.cons_append, List.nil_append, w_101_253, b2i_z]
            by_cases cs : isS (T k)
            · simp only [if_pos cs] at tok
              rw [if_neg (by simp [cs])]
              simp (disch := first | assumption | omega) only [w_101_256, w_101_257, w_101_261, inB_ic, ic_clamp, t8, true_and, sv_d, w_101_262, ic_add1]
              exact tok _ _ _
            · simp only [if_neg cs] at tok
              rw [if_pos (by simp [cs])]
              simp (disch := first | assumption | omega) only [w_101_260, w_101_261, inB_ic, ic_clamp, t8, true_and, sv_d, w_101_262, ic_add1]
              exact tok _ _ _
end
