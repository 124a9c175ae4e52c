/-! TEXT: the class's tokens, the whole tape -/
section
variable {u : Nat × Nat} {L : Nat} {xs : Nat → Int32} {X X' : Nat → Nat → Int32} {Z : Nat → Nat → Int64} {K : List Value → AH → Prop} {V W : Nat → Nat → Int32} {T : Nat → Int32} {n : Nat}
abbrev isL (v : Int32) : Prop := ¬ v < 97 ∧ ¬ 122 < v
abbrev isD (v : Int32) : Prop := ¬ v < 48 ∧ ¬ 57 < v
abbrev isB (v : Int32) : Prop := v = 10 ∨ v = 32
def eF (T : Nat → Int32) (n k : Nat) : Nat := if isL (T k) then enF T 97 122 (n - k) k else if isD (T k) then enF T 48 57 (n - k) k else k + 1
def kdT (T : Nat → Int32) (s e : Nat) : Int32 := if isL (T s) then wkF T s e else if isD (T s) then (if 4 < e - s then 1 else 128) else (if sgF (T s) 7 0 < 0 then 1 else T s)
def nuT (T : Nat → Int32) (s e : Nat) : Int32 := if isL (T s) then 0 else if isD (T s) then (if 4 < e - s then 0 else digF T (e - s) s 0) else 0
def lexF (T : Nat → Int32) (n : Nat) : Nat → Nat → List (Nat × Nat)
  | 0, _ => []
  | d + 1, k => if n ≤ k then [] else if isB (T k) then lexF T n d (eF T n k) else (k, eF T n k) :: lexF T n d (eF T n k)
theorem eF_b {k : Nat} (h : k < n) : k + 1 ≤ eF T n k ∧ eF T n k ≤ n := by
  unfold eF
  have hd : ∃ d, n - k = d + 1 := ⟨n - k - 1, by omega⟩
  obtain ⟨d, hd⟩ := hd
  rw [hd]
  split
  · rename_i c
    unfold enF
    rw [if_pos (show ¬ T k < 97 ∧ ¬ 122 < T k from c)]
    have := enF_b (T := T) (lo := 97) (hi := 122) d (k + 1)
    omega
  · split
    · rename_i c
      unfold enF
      rw [if_pos (show ¬ T k < 48 ∧ ¬ 57 < T k from c)]
      have := enF_b (T := T) (lo := 48) (hi := 57) d (k + 1)
      omega
    · omega
theorem B_nL {v : Int32} (h : isB v) : ¬ isL v ∧ ¬ isD v := by
  rcases h with h | h <;> subst h <;> decide
/-- tokens that were put behind t others -/
def TKs (T : Nat → Int32) (l : List (Nat × Nat)) (t : Nat) (X : Nat → Nat → Int32) : Prop := X 16 4 = ic (t + l.length) ∧ ∀ i, i < l.length → X 22 (t + i) = kdT T (l.getD i (0, 0)).1 (l.getD i (0, 0)).2 ∧ X 23 (t + i) = nuT T (l.getD i (0, 0)).1 (l.getD i (0, 0)).2 ∧ X 24 (t + i) = ic (l.getD i (0, 0)).1
def TKf (t : Nat) (X X' : Nat → Nat → Int32) : Prop := (∀ a, a ≠ 16 → a ≠ 22 → a ≠ 23 → a ≠ 24 → X' a = X a) ∧ (∀ j, j ≠ 4 → X' 16 j = X 16 j) ∧ ∀ a, a = 22 ∨ a = 23 ∨ a = 24 → ∀ i, i < t → X' a i = X a i
theorem TK_cons {l : List (Nat × Nat)} {t s e : Nat} (f : TKf (t + 1) (adT X t (kdT T s e) (nuT T s e) (ic s)) X') (g : TKs T l (t + 1) X') : TKs T ((s, e) :: l) t X' ∧ TKf t X X' := by
  obtain ⟨g1, g2⟩ := g
  obtain ⟨f1, f2, f3⟩ := f
  refine ⟨⟨by rw [g1, List.length_cons]; congr 1; omega, ?_⟩, ?_, ?_, ?_⟩
  · intro i hi
    cases i with
    | zero =>
      have a1 := f3 22 (by omega) t (by omega)
      have a2 := f3 23 (by omega) t (by omega)
      have a3 := f3 24 (by omega) t (by omega)
      unfold adT at a1 a2 a3
      rw [sv_a (by decide), sv_a (by decide), sv_a (by decide), sv_s] at a1
      rw [sv_a (by decide), sv_a (by decide), sv_s] at a2
      rw [sv_a (by decide), sv_s] at a3
      exact ⟨a1, a2, a3⟩
    | succ i =>
      have := g2 i (by simpa using hi)
      rw [show t + 1 + i = t + (i + 1) by omega] at this
      exact this
  · intro a a1 a2 a3 a4
    rw [f1 a a1 a2 a3 a4]
    unfold adT
    rw [sv_a a1, sv_a a4, sv_a a3, sv_a a2]
  · intro j hj
    rw [f2 j hj]
    unfold adT
    rw [sv_i hj, sv_a (by decide), sv_a (by decide), sv_a (by decide)]
  · intro a ha i hi
    rw [f3 a ha i (by omega)]
    unfold adT
    rw [sv_at, sv_at, sv_at, sv_at, if_neg (by omega), if_neg (by omega), if_neg (by omega), if_neg (by omega)]
theorem ad_9 {t : Nat} {k v s : Int32} {a : Nat} (h : a < 16) : adT X t k v s a = X a := by
  unfold adT
  rw [sv_a (by omega), sv_a (by omega), sv_a (by omega), sv_a (by omega)]
theorem mx {a b : Nat} (h : a ≤ b) (hb : b < 2147483648) : (if ic a < ic b then ic b else ic a) = ic b := by
  by_cases c : a < b
  · rw [if_pos (by rw [ic_lt (by omega) hb]; exact c)]
  · have : a = b := by omega
    subst this
    split <;> rfl
theorem l_cut (hn : n ≤ 800) (hT : ∀ i, i < n → cts (T i)) : ∀ d k t X l3 l4 l5, n - k ≤ d → t ≤ k → X 9 1 = ic n → X 10 = T → X 16 4 = ic t → (∀ X', TKs T (lexF T n d k) t X' → TKf t X X' → K [] (hX u L xs X' Z)) → k ≤ n → WP 22 0 7 [.ref 16, .ref 9, .int (ic k), l3, l4, l5] [] (hX u L xs X Z) K := by
  intro d
  induction d with
  | zero =>
    intro k t X l3 l4 l5 hd ht h9 h10 h16 hK hkn
    have e1 : (ic n ≤ ic k) = True := by rw [ic_le (by omega) (by omega)]; exact eq_true (by omega)
    simp only [w_22_7, w_22_8, w_22_9, w_22_12, h9, e1, if_true, w_22_195]
    exact hK X ⟨h16, fun i hi => absurd hi (by simp [lexF])⟩ ⟨fun _ _ _ _ _ => rfl, fun _ _ => rfl, fun _ _ _ _ => rfl⟩
  | succ d ih =>
    intro k t X l3 l4 l5 hd ht h9 h10 h16 hK hkn
    unfold lexF at hK
    by_cases c0 : n ≤ k
    · have e1 : (ic n ≤ ic k) = True := by rw [ic_le (by omega) (by omega)]; exact eq_true (by omega)
      simp only [w_22_7, w_22_8, w_22_9, w_22_12, h9, e1, if_true, w_22_195]
      rw [if_pos c0] at hK
      exact hK X ⟨h16, fun i hi => absurd hi (by simp)⟩ ⟨fun _ _ _ _ _ => rfl, fun _ _ => rfl, fun _ _ _ _ => rfl⟩
    · rw [if_neg c0] at hK
      have e1 : (ic n ≤ ic k) = False := by rw [ic_le (by omega) (by omega)]; exact eq_false (by omega)
      have e2 : (800 ≤ ic k) = False := by rw [show (800 : Int32) = ic 800 from rfl, ic_le (by omega) (by omega)]; exact eq_false (by omega)
      have e8 : (k < 800) = True := eq_true (by omega)
      have hc := hT k (by omega)
      obtain ⟨b1, b2⟩ := eF_b (T := T) (n := n) (k := k) (by omega)
      -- behind a token
      have tok : ∀ l3 l5, ¬ isB (T k) → WP 22 0 189 [.ref 16, .ref 9, .int (ic k), l3, .int (ic (eF T n k)), l5] [] (hX u L xs (adT X t (kdT T k (eF T n k)) (nuT T k (eF T n k)) (ic k)) Z) K := by
        intro l3 l5 hb
        rw [if_neg hb] at hK
        rw [w_22_189, w_22_191, w_22_192]
        refine ih (eF T n k) (t + 1) _ _ _ _ (by omega) (by omega) (by rw [ad_9 (by decide)]; exact h9) (by rw [ad_9 (by decide)]; exact h10) (by unfold adT; exact sv_s) (fun X' g f => ?_) b2
        obtain ⟨q1, q2⟩ := TK_cons f g
        exact hK X' q1 q2
      have cl : isL (T k) → ¬ isB (T k) := fun h1 h2 => (B_nL h2).1 h1
      have cd : isD (T k) → ¬ isB (T k) := fun h1 h2 => (B_nL h2).2 h1
      -- digits and signs
      have oth : ¬ isL (T k) → WP 22 0 78 [.ref 16, .ref 9, .int (ic k), .int (T k), .int (ic (k + 1)), l5] [] (hX u L xs X Z) K := by
        intro nl
        have sgn : ¬ isD (T k) → WP 22 0 157 [.ref 16, .ref 9, .int (ic k), .int (T k), .int (ic (k + 1)), l5] [] (hX u L xs X Z) K := by
          intro nd
          have ee : eF T n k = k + 1 := by unfold eF; rw [if_neg nl, if_neg nd]
          by_cases b : isB (T k)
          · rw [if_pos b] at hK
            have fin : WP 22 0 189 [.ref 16, .ref 9, .int (ic k), .int (T k), .int (ic (k + 1)), l5] [] (hX u L xs X Z) K := by
              rw [w_22_189, w_22_191, w_22_192, ← ee]
              exact ih _ t X _ _ _ (by omega) (by omega) h9 h10 h16 hK b2
            rw [w_22_157, w_22_158, w_22_160]
            by_cases b1 : T k = 10
            · rw [if_pos b1]; exact fin
            · have b2 : T k = 32 := b.resolve_left b1
              rw [if_neg b1, w_22_163, w_22_164, w_22_166, if_pos b2]; exact fin
          · have fin := tok (.int (T k)) l5 b
            have b1 : ¬ T k = 10 := fun h => b (Or.inl h)
            have b2 : ¬ T k = 32 := fun h => b (Or.inr h)
            have hm : ∃ m, T k = ic m ∧ m < 127 := by
              rcases hc with h | ⟨h1, h2⟩
              · exact absurd h b1
              · obtain ⟨z1, z2⟩ := ic_of (v := T k) (fun h => h1 (by rw [Int32.lt_iff_toInt_lt] at h ⊢; have a1 : (0 : Int32).toInt = 0 := rfl; have a2 : (32 : Int32).toInt = 32 := rfl; omega))
                refine ⟨_, z1, ?_⟩
                rw [z1, show (126 : Int32) = ic 126 from rfl, ic_lt (by omega) z2] at h2
                omega
            obtain ⟨m, hm, hm2⟩ := hm
            have ek : kdT T k (eF T n k) = if sgF (T k) 7 0 < 0 then 1 else T k := by unfold kdT; rw [if_neg nl, if_neg nd]
            have en : nuT T k (eF T n k) = 0 := by unfold nuT; rw [if_neg nl, if_neg nd]
            rw [ek, en, ee] at fin
            have ci := fun K => c_indexOf (u := u) (L := L) (xs := xs) (X := X) (Z := Z) (K := K) hm2
            rw [← hm] at ci
            rw [w_22_157, w_22_158, w_22_160, if_neg b1, w_22_163, w_22_164, w_22_166, if_neg b2, w_22_169, w_22_170, w_22_172, w_22_173, ci]
            simp only [ne_thr, app1, true_and, w_22_176]
            by_cases c : sgF (T k) 7 0 < 0
            · rw [if_pos c] at fin ⊢
              rw [w_22_183, w_22_184, w_22_185, w_22_186, c_addT (by omega) h16]
              exact ⟨by simp, fin⟩
            · rw [if_neg c] at fin ⊢
              rw [w_22_179, w_22_180, w_22_184, w_22_185, w_22_186, c_addT (by omega) h16]
              exact ⟨by simp, fin⟩
        rw [w_22_78, w_22_79, w_22_81]
        by_cases d1 : T k < 48
        · rw [if_pos d1]; exact sgn (fun h => h.1 d1)
        · rw [if_neg d1, w_22_84, w_22_85, w_22_87]
          by_cases d2 : 57 < T k
          · rw [if_pos d2]; exact sgn (fun h => h.2 d2)
          · have hd' : isD (T k) := ⟨d1, d2⟩
            have ee : eF T n k = enF T 48 57 (n - k) k := by unfold eF; rw [if_neg nl, if_pos hd']
            have ek : kdT T k (eF T n k) = if 4 < eF T n k - k then 1 else 128 := by unfold kdT; rw [if_neg nl, if_pos hd']
            have en : nuT T k (eF T n k) = if 4 < eF T n k - k then 0 else digF T (eF T n k - k) k 0 := by unfold nuT; rw [if_neg nl, if_pos hd']
            have fin := fun l5 => tok (.int (T k)) l5 (cd hd')
            rw [ek, en] at fin
            rw [if_neg d2, w_22_90, w_22_92, w_22_93, w_22_94, w_22_96, w_22_98, c_eos hn h9 h10 hkn, ← ee]
            simp only [ne_thr, true_and, app1, w_22_101, mx (show k + 1 ≤ eF T n k from b1) (by omega), w_22_104, w_22_106, w_22_108, w_22_109, ic_subN (show k ≤ eF T n k by omega), w_22_110, w_22_111]
            have e4 : (4 < ic (eF T n k - k)) = (4 < eF T n k - k) := by rw [show (4 : Int32) = ic 4 from rfl, ic_lt (by omega) (by omega)]
            simp only [e4]
            by_cases c : 4 < eF T n k - k
            · simp only [if_pos c] at fin ⊢
              simp only [w_22_118, w_22_119, w_22_121, w_22_122, w_22_124, if_true, w_22_133, w_22_134, w_22_136, w_22_149, w_22_150, w_22_151]
              rw [c_addT (by omega) h16]
              exact ⟨by simp, (by rw [app0, w_22_154]; exact fin _)⟩
            · simp only [if_neg c] at fin ⊢
              simp only [w_22_114, w_22_115, w_22_119, w_22_121, w_22_122, w_22_124, show ((1 : Int32) = 0) = False by decide, if_false, w_22_127, w_22_130, w_22_134, w_22_136, w_22_139, w_22_140, w_22_141, w_22_143]
              rw [c_num hn h9 h10 b2 (by omega)]
              simp only [ne_thr, true_and, app1, w_22_146, w_22_150, w_22_151, List.cons_append, List.nil_append]
              rw [c_addT (by omega) h16]
              exact ⟨by simp, (by rw [app0, w_22_154]; exact fin _)⟩
      rw [w_22_7]
      simp (disch := first | assumption | omega) only [w_22_8, w_22_9, w_22_12, h9, e1, if_false, w_22_15, w_22_16, w_22_19, e2, w_22_22, w_22_23, w_22_26, w_22_27, inB_ic, ic_clamp, e8, true_and, h10, w_22_28, w_22_29, w_22_30, w_22_31, ic_add1, w_22_32, w_22_34, w_22_35, w_22_37]
      by_cases d1 : T k < 97
      · rw [if_pos d1]; exact oth (fun h => h.1 d1)
      · rw [if_neg d1, w_22_40, w_22_41, w_22_43]
        by_cases d2 : 122 < T k
        · rw [if_pos d2]; exact oth (fun h => h.2 d2)
        · have hl : isL (T k) := ⟨d1, d2⟩
          have ee : eF T n k = enF T 97 122 (n - k) k := by unfold eF; rw [if_pos hl]
          have ek : kdT T k (eF T n k) = wkF T k (eF T n k) := by unfold kdT; rw [if_pos hl]
          have en : nuT T k (eF T n k) = 0 := by unfold nuT; rw [if_pos hl]
          have fin := tok (.int (T k)) l5 (cl hl)
          rw [ek, en] at fin
          rw [if_neg d2, w_22_46, w_22_48, w_22_49, w_22_50, w_22_52, w_22_54, c_eos hn h9 h10 hkn, ← ee]
          simp only [ne_thr, true_and, app1, w_22_57, mx (show k + 1 ≤ eF T n k from b1) (by omega), w_22_60, w_22_62, w_22_63, w_22_64, w_22_65, w_22_67]
          rw [c_kind hn h10 b2 (by omega)]
          simp only [ne_thr, true_and, app1, w_22_70, w_22_71, w_22_72]
          rw [c_addT (by omega) h16]
          exact ⟨by simp, (by rw [app0, w_22_75]; exact fin)⟩
theorem c_cut (hn : n ≤ 800) (hT : ∀ i, i < n → cts (T i)) (h9 : X 9 1 = ic n) (h10 : X 10 = T) (hK : ∀ X', TKs T (lexF T n 800 0) 0 X' → TKf 0 X X' → K [] (hX u L xs X' Z)) : Call 22 [.ref 16, .ref 9] (hX u L xs X Z) K := by
  rw [en_22, w_22_0, w_22_1, w_22_2, sv_d, w_22_5, w_22_6]
  refine l_cut hn hT 800 0 0 (sv X 16 4 0) _ _ _ (by omega) (by omega) (by rw [sv_a (by decide)]; exact h9) (by rw [sv_a (by decide)]; exact h10) sv_s (fun X' g f => hK X' g ?_) (by omega)
  obtain ⟨f1, f2, f3⟩ := f
  exact ⟨fun a a1 a2 a3 a4 => by rw [f1 a a1 a2 a3 a4, sv_a a1], fun j hj => by rw [f2 j hj, sv_i hj], fun a _ i hi => absurd hi (Nat.not_lt_zero _)⟩
end
