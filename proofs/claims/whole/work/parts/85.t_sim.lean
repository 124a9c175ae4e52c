/-! TEXT: the model reads as the functions say: where both stand, and a part -/
section
variable {u : Nat × Nat} {L : Nat} {xs : Nat → Int32} {X X' : Nat → Nat → Int32} {Z Z' : Nat → Nat → Int64} {K : List Value → AH → Prop} {V W : Nat → Nat → Int32} {Kd Nu : Nat → Int32} {nt nx b c0 : Nat} {O0 V0 S0 : Nat → Int32} {l1 : Value} {Q : List Value → AH → Prop}
def updN (f : Nat → Nat) (k x : Nat) : Nat → Nat := fun j => if j = k then x else f j
theorem updN_s {f : Nat → Nat} {k x : Nat} : updN f k x k = x := by simp [updN]
theorem updN_ne {f : Nat → Nat} {k x j : Nat} (h : j ≠ k) : updN f k x j = f j := by simp [updN, h]
theorem ic_div256 {m : Nat} (h : m < 2147483648) : ic m / 256 = ic (m / 256) := by
  rw [← Int32.toInt_inj, Int32.toInt_div_of_ne_left, ic_toInt h, ic_toInt (by omega)]
  · rw [show (256 : Int32).toInt = 256 from rfl]
    exact (Int.ofNat_tdiv m 256).symm
  · intro e
    have := congrArg Int32.toInt e
    rw [ic_toInt h] at this
    have e2 : Int32.minValue.toInt = -2147483648 := by decide
    omega
theorem stp_kn {k m : Nat} (hk : k < 256) (hm : m ≤ 9999) : remI (ic k + 256 * ic m) 256 = ic k ∧ (ic k + 256 * ic m) / 256 = ic m := by
  have e : ic k + 256 * ic m = ic (k + 256 * m) := by
    rw [show (256 : Int32) = ic 256 from rfl]
    unfold ic
    rw [← Int32.ofNat_mul, ← Int32.ofNat_add]
  have d : (k + 256 * m) / 256 = m := by omega
  unfold remI
  rw [e, ic_div256 (by omega), d]
  refine ⟨?_, rfl⟩
  rw [show (256 : Int32) = ic 256 from rfl, show ic m * ic 256 = ic (256 * m) by unfold ic; rw [← Int32.ofNat_mul, Nat.mul_comm], ic_subN (by omega), Nat.add_sub_cancel]
/-- the step that the class puts and the code that the model puts -/
def MM (nx b c0 : Nat) (O0 V0 S0 : Nat → Int32) (σ : PS) (δ d : Nat) (g : MG) : Prop := g.1.1 = σ.1 ∧ g.1.2.1 = 0 ∧ g.1.2.2.2 = d ∧ b ≤ σ.2.1 ∧ g.1.2.2.1 + b = c0 + σ.2.1 ∧ (∀ j, j < σ.2.1 - b → opR (remI (σ.2.2 (b + j)) 256) (σ.2.2 (b + j) / 256) (g.2.1 (880 * nx + c0 + j)) (g.2.2.1 (880 * nx + c0 + j))) ∧ (∀ i, i < 880 * nx + c0 ∨ 880 * nx + 880 ≤ i → g.2.1 i = O0 i ∧ g.2.2.1 i = V0 i) ∧ (∀ i, i < b → σ.2.2 i = S0 i) ∧ ∃ D : Nat → Nat, D 0 = 0 ∧ D (σ.2.1 - b) = δ ∧ ∀ j, j < σ.2.1 - b → (isPu (remI (σ.2.2 (b + j)) 256) → D j < 32 ∧ D (j + 1) = D j + 1) ∧ (¬ isPu (remI (σ.2.2 (b + j)) 256) → 2 ≤ D j ∧ D (j + 1) + 1 = D j)
def Ft (nx c0 : Nat) (O0 V0 : Nat → Int32) (X : Nat → Nat → Int32) (r : Int32 × PS) (g : MG) : Prop := g.1.2.1 = r.1 + 16 * X 100 r.2.1 ∧ ¬ g.1.2.1 ≤ 0 ∧ g.1.2.1 ≠ 0 ∧ c0 ≤ g.1.2.2.1 ∧ g.1.2.2.1 < 860 ∧ ∀ i, i < 880 * nx + c0 ∨ 880 * nx + 880 ≤ i → g.2.1 i = O0 i ∧ g.2.2.1 i = V0 i
section
variable {σ : PS} {δ d p : Nat} {g : MG}
theorem MM_at (h : MM nx b c0 O0 V0 S0 σ δ d g) : MM nx b c0 O0 V0 S0 (p, σ.2) δ d (gAt p g) := ⟨rfl, h.2⟩
theorem MM_de (h : MM nx b c0 O0 V0 S0 σ δ d g) : MM nx b c0 O0 V0 S0 σ δ p (gDe p g) := ⟨h.1, h.2.1, rfl, h.2.2.2⟩
theorem MM_a {i : Nat} {v : Int32} (h : MM nx b c0 O0 V0 S0 σ δ d g) : MM nx b c0 O0 V0 S0 σ δ d (gA i v g) := h
theorem MM_b {i : Nat} {v : Int32} (h : MM nx b c0 O0 V0 S0 σ δ d g) : MM nx b c0 O0 V0 S0 σ δ d (gB i v g) := h
theorem MM_c {i : Nat} {v : Int32} (h : MM nx b c0 O0 V0 S0 σ δ d g) : MM nx b c0 O0 V0 S0 σ δ d (gC i v g) := h
theorem MM_em {k m δ' : Nat} {o w : Int32} (hcb : c0 ≤ b + 24) (h : MM nx b c0 O0 V0 S0 σ δ d g) (hz : σ.2.1 < 800) (hk : k < 256) (hm : m ≤ 9999) (hop : opR (ic k) (ic m) o w) (hd : (isPu (ic k) ∧ δ < 32 ∧ δ' = δ + 1) ∨ (¬ isPu (ic k) ∧ 2 ≤ δ ∧ δ' + 1 = δ)) : MM nx b c0 O0 V0 S0 (stF (ic k) (ic m) σ) δ' d (gEm nx o w g) := by
  obtain ⟨h1, h2, h3, h4, h5, h6, h7, h8, D, d1, d2, d3⟩ := h
  obtain ⟨e1, e2⟩ := stp_kn hk hm
  have hco : 880 * nx + g.1.2.2.1 = 880 * nx + c0 + (σ.2.1 - b) := by omega
  unfold stF
  rw [if_pos hz]
  have zz : σ.2.1 + 1 - b = (σ.2.1 - b) + 1 := by omega
  refine ⟨h1, h2, h3, ?_, ?_, ?_, ?_, ?_, updN D (σ.2.1 - b + 1) δ', ?_, ?_, ?_⟩
  · show b ≤ σ.2.1 + 1
    omega
  · show g.1.2.2.1 + 1 + b = c0 + (σ.2.1 + 1)
    omega
  · intro j hj
    replace hj : j < σ.2.1 + 1 - b := hj
    show opR (remI (upd σ.2.2 σ.2.1 (ic k + 256 * ic m) (b + j)) 256) (upd σ.2.2 σ.2.1 (ic k + 256 * ic m) (b + j) / 256) (upd g.2.1 (880 * nx + g.1.2.2.1) o (880 * nx + c0 + j)) (upd g.2.2.1 (880 * nx + g.1.2.2.1) w (880 * nx + c0 + j))
    rw [hco]
    by_cases e : j = σ.2.1 - b
    · subst e
      rw [show b + (σ.2.1 - b) = σ.2.1 by omega]
      simp only [upd, if_true]
      rw [e1, e2]
      exact hop
    · simp only [upd]
      rw [if_neg (by omega), if_neg (by omega), if_neg (by omega)]
      exact h6 j (by omega)
  · intro i hi
    show upd g.2.1 (880 * nx + g.1.2.2.1) o i = O0 i ∧ upd g.2.2.1 (880 * nx + g.1.2.2.1) w i = V0 i
    simp only [upd]
    rw [if_neg (by omega), if_neg (by omega)]
    exact h7 i hi
  · intro i hi
    show upd σ.2.2 σ.2.1 (ic k + 256 * ic m) i = S0 i
    simp only [upd]
    rw [if_neg (by omega)]
    exact h8 i hi
  · rw [updN_ne (f := D) (show (0 : Nat) ≠ σ.2.1 - b + 1 by omega)]
    exact d1
  · show updN D (σ.2.1 - b + 1) δ' (σ.2.1 + 1 - b) = δ'
    rw [zz]
    exact updN_s
  · intro j hj
    replace hj : j < σ.2.1 + 1 - b := hj
    show (isPu (remI (upd σ.2.2 σ.2.1 (ic k + 256 * ic m) (b + j)) 256) → _) ∧ (¬ isPu (remI (upd σ.2.2 σ.2.1 (ic k + 256 * ic m) (b + j)) 256) → _)
    by_cases e : j = σ.2.1 - b
    · subst e
      rw [show b + (σ.2.1 - b) = σ.2.1 by omega, updN_s, updN_ne (by omega), d2]
      simp only [upd, if_true]
      rw [e1]
      rcases hd with ⟨q1, q2, q3⟩ | ⟨q1, q2, q3⟩
      · exact ⟨fun _ => ⟨q2, q3⟩, fun n => absurd q1 n⟩
      · exact ⟨fun n => absurd n q1, fun _ => ⟨q2, q3⟩⟩
    · simp only [upd]
      rw [if_neg (by omega), updN_ne (by omega), updN_ne (by omega)]
      exact d3 j (by omega)
end
end
