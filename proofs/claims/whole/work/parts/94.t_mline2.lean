/-! TEXT: a line of the model follows the class's -/
section
variable {u : Nat × Nat} {L : Nat} {xs : Nat → Int32} {X X' : Nat → Nat → Int32} {Z Z' : Nat → Nat → Int64} {K : List Value → AH → Prop} {V W : Nat → Nat → Int32} {Kd Nu : Nat → Int32} {nt n nx : Nat} {E : PS → Int32 × PS} {T : Nat → Int32}
def enA (EN : Nat → Int32) (l : Nat) : Nat := (EN l).toNatClampNeg
def stA (EN : Nat → Int32) (l : Nat) : Nat := if l = 0 then 0 else enA EN (l - 1)
/-- a line's steps and the model's codes -/
def cdL (S o v : Nat → Int32) (b m a : Nat) : Prop := (∀ j, j < m → opR (remI (S (b + j)) 256) (S (b + j) / 256) (o (a + j)) (v (a + j))) ∧ o (a + m) = 0 ∧ a + m < 1760 ∧ ∃ D : Nat → Nat, D 0 = 0 ∧ D m = 1 ∧ ∀ j, j < m → (isPu (remI (S (b + j)) 256) → D j < 32 ∧ D (j + 1) = D j + 1) ∧ (¬ isPu (remI (S (b + j)) 256) → 2 ≤ D j ∧ D (j + 1) + 1 = D j)
theorem cdL_of {S o v S' o' v' : Nat → Int32} {b m a : Nat} (hS : ∀ i, i < b + m → S' i = S i) (ho : ∀ i, i ≤ a + m → o' i = o i ∧ v' i = v i) (h : cdL S o v b m a) : cdL S' o' v' b m a := by
  obtain ⟨h1, h2, h3, D, d1, d2, d3⟩ := h
  refine ⟨fun j hj => ?_, ?_, h3, D, d1, d2, fun j hj => ?_⟩
  · rw [hS _ (by omega), (ho _ (by omega)).1, (ho _ (by omega)).2]; exact h1 j hj
  · rw [(ho _ (Nat.le_refl _)).1]; exact h2
  · rw [hS _ (by omega)]; exact d3 j hj
/-- what both hold between two lines -/
def LI2 (nx i : Nat) (X : Nat → Nat → Int32) (σ : PS) (ℓ m : LnS) (g : MG) : Prop := ℓ.1 = i ∧ m.1 = i ∧ g.1.1 = σ.1 ∧ g.1.2.1 = 0 ∧ g.1.2.2.1 = σ.2.1 + i ∧ σ.2.1 ≤ σ.1 ∧ σ.2.1 = stA ℓ.2.2.2 i ∧ (∀ l, l < i → ℓ.2.2.2 l = ic (enA ℓ.2.2.2 l) ∧ stA ℓ.2.2.2 l ≤ enA ℓ.2.2.2 l ∧ enA ℓ.2.2.2 l ≤ σ.2.1 ∧ m.2.1 (24 * nx + l) = ℓ.2.1 l ∧ m.2.2.1 (24 * nx + l) = ℓ.2.2.1 l ∧ m.2.2.2 (24 * nx + l) = ic (880 * nx + stA ℓ.2.2.2 l + l) ∧ cdL σ.2.2 g.2.1 g.2.2.1 (stA ℓ.2.2.2 l) (enA ℓ.2.2.2 l - stA ℓ.2.2.2 l) (880 * nx + stA ℓ.2.2.2 l + l)) ∧ FO nx X m g
theorem en_up {EN : Nat → Int32} {i l : Nat} {v : Int32} (h : l ≠ i) : enA (upd EN i v) l = enA EN l := by unfold enA; simp only [upd]; rw [if_neg h]
theorem st_up {EN : Nat → Int32} {i l : Nat} {v : Int32} (h : l ≤ i) : stA (upd EN i v) l = stA EN l := by
  unfold stA
  by_cases c : l = 0
  · rw [if_pos c, if_pos c]
  · rw [if_neg c, if_neg c, en_up (by omega)]
/-- the line's end when its test was read -/
theorem e_175 {i : Nat} {σ τ : PS} {ℓ m M : LnS} {g0 g : MG} {l1 : Value} {pl wa : Int32} (hm : ME Kd Nu nt nx X Z) (hi : i < 24) (h : LI2 nx i X σ ℓ m g0) (hM : MM nx σ.2.1 (σ.2.1 + i) g0.2.1 g0.2.2.1 σ.2.2 τ 1 0 g) (ho : okσ nt τ) (hzp : τ.2.1 ≤ τ.1) (e1 : M.1 = i) (e2 : M.2.1 = upd m.2.1 (24 * nx + i) pl) (e3 : M.2.2.1 = upd m.2.2.1 (24 * nx + i) wa) (e4 : M.2.2.2 = upd m.2.2.2 (24 * nx + i) (ic (880 * nx + (σ.2.1 + i)))) : (Kd τ.1 = 59 → (∀ m' g', LI2 nx (i + 1) X (nxF τ) (alF pl wa τ.2.1 ℓ) m' g' → K [] (hX u L xs (gS (mS nx X m') g') Z)) → WP 120 0 175 [.ref 97, l1, .int 0] [] (hX u L xs (gS (mS nx X M) g) Z) K) ∧ (¬ Kd τ.1 = 59 → (∀ m' g', g'.1.2.1 = 1 + 16 * X 100 τ.1 → FO nx X m' g' → K [] (hX u L xs (gS (mS nx X m') g') Z)) → WP 120 0 175 [.ref 97, l1, .int 0] [] (hX u L xs (gS (mS nx X M) g) Z) K) := by
  obtain ⟨k1, k2, k3, k4, k5, k6, k7, k8, k9⟩ := h
  obtain ⟨m1, m2, m3, m4, m5, m6, m7, m8, D, d1, d2, d3⟩ := hM
  have hm' := ME_m (m := M) hm
  have o2 := ho.2
  have hnx := hm.2.1
  have en2 : (nx < 2) = True := eq_true hm.2.1
  have fo : FO nx X M g := by
    refine ⟨fun j hj => ?_, fun j hj => ?_⟩
    · obtain ⟨a, b, c⟩ := k9.1 j hj
      rw [e2, e3, e4]
      simp only [upd]
      rw [if_neg (by omega), if_neg (by omega), if_neg (by omega)]
      exact ⟨a, b, c⟩
    · obtain ⟨a, b⟩ := k9.2 j hj
      obtain ⟨a', b'⟩ := m7 j (by omega)
      exact ⟨a'.trans a, b'.trans b⟩
  have hco : g.1.2.2.1 = τ.2.1 + i := by omega
  have x100 : (mS nx X M) 100 = X 100 := mS_n (by decide)
  -- the lines' count
  have cnt : ∀ G : MG, K [] (hX u L xs (gS (mS nx X (i + 1, M.2)) G) Z) → WP 120 0 187 [.ref 97, l1, .int 0] [] (hX u L xs (gS (mS nx X M) G) Z) K := by
    intro G hG
    have x39 : gS (mS nx X M) G 97 39 = ic nx := by rw [gS_39]; exact hm'.2.2.1
    simp (disch := first | assumption | omega) only [w_120_187, w_120_188, w_120_191, w_120_192, x39, w_120_195, w_120_196, inB_ic, ic_clamp, en2, true_and, gm_120, w_120_197, w_120_198, ic_add1, w_120_199, gm_u120, w_120_200, e1]
    exact hG
  have go : WP 120 0 187 [.ref 97, l1, .int 0] [] (hX u L xs (gS (mS nx X M) (if Kd τ.1 = 59 then gAt (τ.1 + 1) (gEm nx 0 0 g) else gFa (1 + 16 * X 100 τ.1) (gEm nx 0 0 g))) Z) K → WP 120 0 175 [.ref 97, l1, .int 0] [] (hX u L xs (gS (mS nx X M) g) Z) K := by
    intro z
    rw [w_120_175, w_120_176, w_120_177, w_120_178, m_emit hm.2.1 hm'.2.2.1 (by omega)]
    refine ⟨by simp, ?_⟩
    rw [app0, w_120_181, w_120_182, w_120_184, m_takeSign0 (g := gEm nx 0 0 g) hm' (Or.inr (Or.inr (Or.inl rfl))) m2 (by show g.1.1 ≤ nt; rw [m1]; exact ho.1), show (gEm nx 0 0 g).1.1 = τ.1 from m1, x100]
    exact ⟨by simp, by rw [app0]; exact z⟩
  refine ⟨fun c hK => go ?_, fun c hK => go ?_⟩
  · rw [if_pos c]
    refine cnt _ (hK _ _ ?_)
    have el : alF pl wa τ.2.1 ℓ = (i + 1, upd ℓ.2.1 i pl, upd ℓ.2.2.1 i wa, upd ℓ.2.2.2 i (ic τ.2.1)) := by
      unfold alF
      rw [k1, if_pos hi]
    rw [el]
    have ez : enA (upd ℓ.2.2.2 i (ic τ.2.1)) i = τ.2.1 := by unfold enA; simp only [upd, if_true]; exact ic_clamp (by omega)
    have oo : ∀ j, j ≠ 880 * nx + (τ.2.1 + i) → (gAt (τ.1 + 1) (gEm nx 0 0 g)).2.1 j = g.2.1 j ∧ (gAt (τ.1 + 1) (gEm nx 0 0 g)).2.2.1 j = g.2.2.1 j := by
      intro j hj
      show upd g.2.1 (880 * nx + g.1.2.2.1) 0 j = _ ∧ upd g.2.2.1 (880 * nx + g.1.2.2.1) 0 j = _
      simp only [upd]
      rw [hco, if_neg hj, if_neg hj]
      exact ⟨rfl, rfl⟩
    refine ⟨rfl, rfl, rfl, m2, ?_, ?_, ?_, fun l hl => ?_, ?_⟩
    · show g.1.2.2.1 + 1 = τ.2.1 + (i + 1)
      omega
    · show τ.2.1 ≤ τ.1 + 1
      omega
    · show τ.2.1 = stA (upd ℓ.2.2.2 i (ic τ.2.1)) (i + 1)
      unfold stA
      rw [if_neg (by omega), Nat.add_sub_cancel, ez]
    · by_cases c2 : l = i
      · subst c2
        have es : stA (upd ℓ.2.2.2 l (ic τ.2.1)) l = σ.2.1 := by rw [st_up (Nat.le_refl _), ← k7]
        refine ⟨?_, ?_, ?_, ?_, ?_, ?_, ?_⟩
        · show upd ℓ.2.2.2 l (ic τ.2.1) l = ic (enA (upd ℓ.2.2.2 l (ic τ.2.1)) l)
          rw [ez]
          simp [upd]
        · show stA (upd ℓ.2.2.2 l (ic τ.2.1)) l ≤ enA (upd ℓ.2.2.2 l (ic τ.2.1)) l
          rw [es, ez]; exact m4
        · show enA (upd ℓ.2.2.2 l (ic τ.2.1)) l ≤ τ.2.1
          rw [ez]; exact Nat.le_refl _
        · show M.2.1 (24 * nx + l) = upd ℓ.2.1 l pl l
          rw [e2]; simp [upd]
        · show M.2.2.1 (24 * nx + l) = upd ℓ.2.2.1 l wa l
          rw [e3]; simp [upd]
        · show M.2.2.2 (24 * nx + l) = ic (880 * nx + stA (upd ℓ.2.2.2 l (ic τ.2.1)) l + l)
          rw [es, e4, Nat.add_assoc]; simp [upd]
        · show cdL τ.2.2 _ _ (stA (upd ℓ.2.2.2 l (ic τ.2.1)) l) (enA (upd ℓ.2.2.2 l (ic τ.2.1)) l - stA (upd ℓ.2.2.2 l (ic τ.2.1)) l) (880 * nx + stA (upd ℓ.2.2.2 l (ic τ.2.1)) l + l)
          rw [es, ez]
          refine ⟨fun j hj => ?_, ?_, by omega, D, d1, d2, d3⟩
          · have q := m6 j hj
            rw [(oo _ (by omega)).1, (oo _ (by omega)).2]
            rw [show 880 * nx + (σ.2.1 + l) + j = 880 * nx + σ.2.1 + l + j by omega] at q
            exact q
          · show upd g.2.1 (880 * nx + g.1.2.2.1) 0 (880 * nx + σ.2.1 + l + (τ.2.1 - σ.2.1)) = 0
            rw [show 880 * nx + σ.2.1 + l + (τ.2.1 - σ.2.1) = 880 * nx + g.1.2.2.1 by omega]
            simp [upd]
      · obtain ⟨q1, q2, q3, q4, q5, q6, q7⟩ := k8 l (by omega)
        have e5 := en_up (EN := ℓ.2.2.2) (i := i) (l := l) (v := ic τ.2.1) c2
        have e6 := st_up (EN := ℓ.2.2.2) (i := i) (l := l) (v := ic τ.2.1) (by omega)
        refine ⟨?_, ?_, ?_, ?_, ?_, ?_, ?_⟩
        · show upd ℓ.2.2.2 i (ic τ.2.1) l = ic (enA (upd ℓ.2.2.2 i (ic τ.2.1)) l)
          rw [e5]
          simp only [upd]
          rw [if_neg c2]
          exact q1
        · show stA (upd ℓ.2.2.2 i (ic τ.2.1)) l ≤ enA (upd ℓ.2.2.2 i (ic τ.2.1)) l
          rw [e5, e6]; exact q2
        · show enA (upd ℓ.2.2.2 i (ic τ.2.1)) l ≤ τ.2.1
          rw [e5]; omega
        · show M.2.1 (24 * nx + l) = upd ℓ.2.1 i pl l
          rw [e2]
          simp only [upd]
          rw [if_neg (by omega), if_neg c2]
          exact q4
        · show M.2.2.1 (24 * nx + l) = upd ℓ.2.2.1 i wa l
          rw [e3]
          simp only [upd]
          rw [if_neg (by omega), if_neg c2]
          exact q5
        · show M.2.2.2 (24 * nx + l) = ic (880 * nx + stA (upd ℓ.2.2.2 i (ic τ.2.1)) l + l)
          rw [e6, e4]
          simp only [upd]
          rw [if_neg (by omega)]
          exact q6
        · show cdL τ.2.2 _ _ (stA (upd ℓ.2.2.2 i (ic τ.2.1)) l) (enA (upd ℓ.2.2.2 i (ic τ.2.1)) l - stA (upd ℓ.2.2.2 i (ic τ.2.1)) l) (880 * nx + stA (upd ℓ.2.2.2 i (ic τ.2.1)) l + l)
          rw [e5, e6]
          refine cdL_of (fun j hj => m8 j (by omega)) (fun j hj => ?_) q7
          rw [(oo j (by omega)).1, (oo j (by omega)).2]
          exact m7 j (by omega)
    · refine FO_1 ⟨fo.1, fun j hj => ?_⟩
      rw [(oo j (by omega)).1, (oo j (by omega)).2]
      exact fo.2 j hj
  · rw [if_neg c]
    refine cnt _ (hK _ _ rfl (FO_1 ?_))
    exact ⟨fo.1, (FO_em (by omega) fo).2⟩
/-- behind an expression at the first level the line is at its end -/
theorem g_249_0 {g : MG} {l1 : Value} {Q : List Value → AH → Prop} (he : g.1.2.2.2 = 0) (h : pE u L xs X Z l1 Q g) : pG u L xs X Z l1 Q 249 g := by
  unfold pG
  rw [w_124_249, w_124_250, w_124_253, gS_41, he, if_neg (by decide), w_124_256, w_124_257]
  exact ⟨by decide, gret0 h⟩
end
