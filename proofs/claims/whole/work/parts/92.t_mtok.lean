/-! TEXT: the model's tokens, all of them -/
section
variable {u : Nat × Nat} {L : Nat} {xs : Nat → Int32} {X X' : Nat → Nat → Int32} {Z Z' : Nat → Nat → Int64} {K : List Value → AH → Prop} {V W : Nat → Nat → Int32} {Kd Nu : Nat → Int32} {nt n nx : Nat} {E : PS → Int32 × PS} {T : Nat → Int32}
theorem lex_mem : ∀ d k i, i < (lexF T n d k).length → ((lexF T n d k).getD i (0, 0)).1 < n ∧ ((lexF T n d k).getD i (0, 0)).2 = eF T n ((lexF T n d k).getD i (0, 0)).1 := by
  intro d
  induction d with
  | zero => intro k i hi; exact absurd hi (by simp [lexF])
  | succ d ih =>
    intro k i hi
    unfold lexF at hi ⊢
    by_cases c : n ≤ k
    · rw [if_pos c] at hi; exact absurd hi (by simp)
    · rw [if_neg c] at hi ⊢
      by_cases c2 : isB (T k)
      · rw [if_pos c2] at hi ⊢; exact ih _ i hi
      · rw [if_neg c2] at hi ⊢
        cases i with
        | zero => exact ⟨by show k < n; omega, rfl⟩
        | succ i =>
          rw [List.length_cons] at hi
          exact ih _ i (by omega)
/-- what the model's cells hold behind its cutting -/
def mtk (T : Nat → Int32) (l : List (Nat × Nat)) (n : Nat) (X X' : Nat → Nat → Int32) (Z Z' : Nat → Nat → Int64) : Prop := MKs T l 0 X' Z' ∧ X' 99 l.length = 0 ∧ X' 100 l.length = ic n ∧ X' 97 7 = 0 ∧ X' 97 8 = 0 ∧ X' 97 2 = 0 ∧ (∀ j, j ≠ 2 → j ≠ 3 → j ≠ 7 → j ≠ 8 → X' 97 j = X 97 j) ∧ (∀ a, a ≠ 97 → a ≠ 99 → a ≠ 100 → X' a = X a) ∧ ∀ a, a ≠ 101 → Z' a = Z a
theorem m_cutAll (hn : n ≤ 800) (h2 : X 97 2 = ic n) (h98 : ∀ i, i < n → X 98 i = T i) (hK : ∀ X' Z', mtk T (lexF T n 800 0) n X X' Z Z' → K [] (hX u L xs X' Z')) : Call 101 [.ref 97] (hX u L xs X Z) K := by
  rw [en_101, w_101_0, w_101_1, w_101_2, w_101_5, sv_d, w_101_8, w_101_9, w_101_10, sv_d, w_101_13, w_101_14, w_101_15, w_101_16, h2]
  generalize hX1 : sv (sv X 97 3 (ic n)) 97 2 0 = X1
  have x3 : X1 97 3 = ic n := by rw [← hX1, sv_i (by decide), sv_s]
  have x2 : X1 97 2 = 0 := by rw [← hX1, sv_s]
  have x97 : ∀ j, j ≠ 2 → j ≠ 3 → X1 97 j = X 97 j := fun j a1 a2 => by rw [← hX1, sv_i a1, sv_i a2]
  have xn : ∀ a, a ≠ 97 → X1 a = X a := fun a ha => by rw [← hX1, sv_a ha, sv_a ha]
  refine l_mcut (T := T) (n := n) hn 800 0 0 X1 Z _ _ _ _ (by omega) (Nat.le_refl _) x3 (fun i hi => by rw [xn 98 (by decide)]; exact h98 i hi) (Nat.zero_le _) (fun X2 Z2 l2 l3 l4 l5 l6 ms mf hl => ?_)
  generalize lexF T n 800 0 = l at hK ms hl
  rw [Nat.zero_add] at hl ⊢
  obtain ⟨f1, _, f3⟩ := mf
  have t8 : (l.length < 802) = True := eq_true (by omega)
  have y3 : X2 97 3 = ic n := by rw [f1 97 (by decide) (by decide)]; exact x3
  have y3' : sv X2 99 l.length 0 97 3 = ic n := by rw [sv_a (by decide)]; exact y3
  rw [w_101_279]
  simp (disch := first | assumption | omega) only [w_101_280, w_101_283, w_101_284, w_101_285, inB_ic, ic_clamp, t8, true_and, sv_d, w_101_286, w_101_287, w_101_290, w_101_291, w_101_292, y3', w_101_295, w_101_296, w_101_297, w_101_298, w_101_301, w_101_302, w_101_303, w_101_306]
  refine hK _ _ ⟨fun i hi => ?_, ?_, ?_, ?_, ?_, ?_, fun j j1 j2 j3 j4 => ?_, fun a a1 a2 a3 => ?_, f3⟩
  · obtain ⟨q1, q2, q3⟩ := ms i hi
    rw [Nat.zero_add] at q1 q2 q3 ⊢
    refine ⟨?_, ?_, q3⟩
    · rw [sv_a (by decide), sv_a (by decide), sv_a (by decide), sv_i (by omega)]; exact q1
    · rw [sv_a (by decide), sv_a (by decide), sv_i (by omega), sv_a (by decide)]; exact q2
  · rw [sv_a (by decide), sv_a (by decide), sv_a (by decide), sv_s]
  · rw [sv_a (by decide), sv_a (by decide), sv_s]
  · rw [sv_i (by decide), sv_s]
  · rw [sv_s]
  · rw [sv_i (by decide), sv_i (by decide), sv_a (by decide), sv_a (by decide), f1 97 (by decide) (by decide)]; exact x2
  · rw [sv_i j4, sv_i j3, sv_a (by decide), sv_a (by decide), f1 97 (by decide) (by decide)]; exact x97 j j1 j2
  · rw [sv_a a1, sv_a a1, sv_a a3, sv_a a2, f1 a a2 a3]; exact xn a a1
theorem tk_end {va : Int64} : tkR 0 0 0 va := by
  refine ⟨by decide, fun h => absurd h (by decide), ⟨0, by omega, rfl⟩, fun c hc => ⟨fun h => absurd h.1 (by decide), fun h => absurd h.symm (isS_not hc).1⟩, fun w hw => ⟨fun h => absurd h.1 (by decide), fun h => ?_⟩, Or.inl (by decide), by decide⟩
  have : ∀ w : Fin 11, (0 : Int32) ≠ ic (129 + w.1) := by decide +kernel
  exact absurd h (this ⟨w, hw⟩)
theorem ME_mk {l : List (Nat × Nat)} (hl : l = lexF T n 800 0) (hn : n ≤ 800) (hnx : nx < 2) (h39 : X 97 39 = ic nx) (h99 : ∀ i, i ≤ l.length → X 99 i = X' 99 i) (h100 : ∀ i, i ≤ l.length → X 100 i = X' 100 i) (ms : MKs T l 0 X' Z) (e1 : X' 99 l.length = 0) (e2 : X' 100 l.length = ic n) (hz : ∀ w, w < 11 → Z 102 w = wdV w) : ME (kdL T l) (nuL T l) l.length nx X Z ∧ ∀ i, i ≤ l.length → X 100 i = spF l n i := by
  have hlen : l.length ≤ n := by rw [hl]; have := lex_len (T := T) (n := n) 800 0 (by omega); omega
  have sp : ∀ i, i ≤ l.length → X 100 i = spF l n i := by
    intro i hi
    rw [h100 i hi]
    unfold spF
    by_cases c : i < l.length
    · rw [if_pos c]
      have := (ms i c).2.1
      rw [Nat.zero_add] at this
      exact this
    · have : i = l.length := by omega
      rw [if_neg c, this, e2]
  refine ⟨⟨by omega, hnx, h39, fun i hi => ?_, hz, fun i hi => ?_⟩, sp⟩
  · rw [h99 i hi]
    unfold kdL nuL
    by_cases c : i < l.length
    · rw [if_pos c, if_pos c]
      obtain ⟨q1, q2, q3⟩ := ms i c
      rw [Nat.zero_add] at q1 q3
      have m := lex_mem (T := T) (n := n) 800 0 i (by rw [← hl]; exact c)
      rw [← hl] at m
      rw [q1, q3, m.2]
      exact tk_ok m.1
    · have : i = l.length := by omega
      rw [if_neg c, if_neg c, this, e1]
      exact tk_end
  · rw [sp i hi]
    unfold spF
    by_cases c : i < l.length
    · rw [if_pos c]
      have m := lex_mem (T := T) (n := n) 800 0 i (by rw [← hl]; exact c)
      rw [← hl] at m
      exact ⟨_, by omega, rfl⟩
    · rw [if_neg c]; exact ⟨n, hn, rfl⟩
end
