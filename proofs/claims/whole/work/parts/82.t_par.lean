/-! TEXT: the class reads its tokens, as functions -/
section
variable {u : Nat × Nat} {L : Nat} {xs : Nat → Int32} {X X' : Nat → Nat → Int32} {Z Z' : Nat → Nat → Int64} {K : List Value → AH → Prop} {V W : Nat → Nat → Int32} {Kd Nu : Nat → Int32} {nt : Nat}
abbrev PS : Type := Nat × Nat × (Nat → Int32)
def CE (Kd Nu : Nat → Int32) (nt : Nat) (X : Nat → Nat → Int32) : Prop := nt ≤ 800 ∧ X 16 4 = ic nt ∧ (∀ i, i < nt → X 22 i = Kd i ∧ X 23 i = Nu i) ∧ ∀ i, nt ≤ i → Kd i = 0 ∧ Nu i = 0
def pS (X : Nat → Nat → Int32) (σ : PS) : Nat → Nat → Int32 := va_up (va_up (va_up X 16 (upd (X 16) 5 (ic σ.1))) 17 (upd (X 17) 5 (ic σ.2.1))) 21 σ.2.2
def okσ (nt : Nat) (σ : PS) : Prop := σ.1 ≤ nt ∧ σ.2.1 ≤ 800
def nxF (σ : PS) : PS := (σ.1 + 1, σ.2)
def stF (k v : Int32) (σ : PS) : PS := if σ.2.1 < 800 then (σ.1, σ.2.1 + 1, upd σ.2.2 σ.2.1 (k + 256 * v)) else σ
section
variable {σ : PS}
theorem pS_165 : pS X σ 16 5 = ic σ.1 := by simp [pS, va_up, upd]
theorem pS_164 : pS X σ 16 4 = X 16 4 := by simp [pS, va_up, upd]
theorem pS_175 : pS X σ 17 5 = ic σ.2.1 := by simp [pS, va_up, upd]
theorem pS_170 : pS X σ 17 0 = X 17 0 := by simp [pS, va_up, upd]
theorem pS_21 : pS X σ 21 = σ.2.2 := by simp [pS, va_up]
theorem pS_n {a : Nat} (h1 : a ≠ 16) (h2 : a ≠ 17) (h3 : a ≠ 21) : pS X σ a = X a := by simp [pS, va_up, h1, h2, h3]
theorem pS_nx {p : Nat} : va_up (pS X σ) 16 (upd (pS X σ 16) 5 (ic p)) = pS X (p, σ.2) := by
  funext a i
  simp only [pS, va_up, upd]
  by_cases h9 : a = 16
  · subst h9; simp; by_cases h1 : i = 5 <;> simp [h1, upd]
  · by_cases h10 : a = 17 <;> by_cases h11 : a = 21 <;> simp [h9, h10, h11]
theorem pS_st {v : Int32} {z : Nat} {S : Nat → Int32} : va_up (va_up (pS X σ) 21 S) 17 (upd (va_up (pS X σ) 21 S 17) 5 (ic z)) = pS X (σ.1, z, S) := by
  funext a i
  simp only [pS, va_up, upd]
  by_cases h9 : a = 17
  · subst h9; simp; by_cases h1 : i = 5 <;> simp [h1, upd]
  · by_cases h10 : a = 16 <;> by_cases h11 : a = 21 <;> simp [h9, h10, h11]
end
theorem r_kind {σ : PS} (hc : CE Kd Nu nt X) (ho : okσ nt σ) : Call 25 [.ref 16] (hX u L xs (pS X σ) Z) K ↔ K [.int (Kd σ.1)] (hX u L xs (pS X σ) Z) := by
  obtain ⟨h8, h4, hk, h0⟩ := hc
  obtain ⟨o1, o2⟩ := ho
  by_cases c : σ.1 < nt
  · have e1 : (ic nt ≤ ic σ.1) = False := by rw [ic_le (by omega) (by omega)]; exact eq_false (by omega)
    have e8 : (σ.1 < 800) = True := eq_true (by omega)
    have e22 : pS X σ 22 σ.1 = Kd σ.1 := by rw [pS_n (by decide) (by decide) (by decide)]; exact (hk _ c).1
    simp (disch := first | assumption | omega) only [en_25, w_25_0, w_25_1, w_25_4, w_25_5, w_25_8, w_25_11, w_25_12, w_25_15, w_25_16, w_25_19, w_25_20, w_25_24, pS_165, pS_164, h4, e1, if_false, inB_ic, ic_clamp, e8, true_and, e22]
  · have e1 : (ic nt ≤ ic σ.1) = True := by rw [ic_le (by omega) (by omega)]; exact eq_true (by omega)
    simp (disch := first | assumption | omega) only [en_25, w_25_0, w_25_1, w_25_4, w_25_5, w_25_8, w_25_12, w_25_15, w_25_16, w_25_19, w_25_20, w_25_23, w_25_24, pS_165, pS_164, h4, e1, if_true, (h0 σ.1 (by omega)).1]
theorem r_number {σ : PS} (hc : CE Kd Nu nt X) (ho : okσ nt σ) : Call 26 [.ref 16] (hX u L xs (pS X σ) Z) K ↔ K [.int (Nu σ.1)] (hX u L xs (pS X σ) Z) := by
  obtain ⟨h8, h4, hk, h0⟩ := hc
  obtain ⟨o1, o2⟩ := ho
  by_cases c : σ.1 < nt
  · have e1 : (ic nt ≤ ic σ.1) = False := by rw [ic_le (by omega) (by omega)]; exact eq_false (by omega)
    have e8 : (σ.1 < 800) = True := eq_true (by omega)
    have e22 : pS X σ 23 σ.1 = Nu σ.1 := by rw [pS_n (by decide) (by decide) (by decide)]; exact (hk _ c).2
    simp (disch := first | assumption | omega) only [en_26, w_26_0, w_26_1, w_26_4, w_26_5, w_26_8, w_26_11, w_26_12, w_26_15, w_26_16, w_26_19, w_26_20, w_26_24, pS_165, pS_164, h4, e1, if_false, inB_ic, ic_clamp, e8, true_and, e22]
  · have e1 : (ic nt ≤ ic σ.1) = True := by rw [ic_le (by omega) (by omega)]; exact eq_true (by omega)
    simp (disch := first | assumption | omega) only [en_26, w_26_0, w_26_1, w_26_4, w_26_5, w_26_8, w_26_12, w_26_15, w_26_16, w_26_19, w_26_20, w_26_23, w_26_24, pS_165, pS_164, h4, e1, if_true, (h0 σ.1 (by omega)).2]
def paF (Kd : Nat → Int32) (c : Int32) (σ : PS) : Int32 × PS := if Kd σ.1 = c then (0, nxF σ) else (1, σ)
theorem r_pass {σ : PS} {c : Int32} (hc : CE Kd Nu nt X) (ho : okσ nt σ) : Call 27 [.ref 16, .int c] (hX u L xs (pS X σ) Z) K ↔ K [.int (paF Kd c σ).1] (hX u L xs (pS X (paF Kd c σ).2) Z) := by
  unfold paF
  by_cases q : Kd σ.1 = c
  · simp only [en_27, w_27_0, w_27_1, w_27_4, w_27_5, w_27_9, w_27_10, w_27_11, w_27_12, w_27_15, w_27_16, w_27_17, w_27_20, w_27_21, r_kind hc ho, ne_thr, app1, true_and, if_pos q, pS_165, ic_add1, pS_nx]
    rfl
  · simp only [en_27, w_27_0, w_27_1, w_27_4, w_27_5, w_27_8, w_27_9, w_27_11, w_27_12, w_27_15, w_27_16, w_27_17, w_27_20, w_27_21, r_kind hc ho, ne_thr, app1, true_and, if_neg q]
def pnF (Kd Nu : Nat → Int32) (lo hi : Int32) (σ : PS) : Int32 × PS := if Kd σ.1 = 128 then (if ¬ Nu σ.1 < lo ∧ ¬ hi < Nu σ.1 then (0, nxF σ) else (4, σ)) else (1, σ)
theorem r_passN {σ : PS} {lo hi : Int32} (hc : CE Kd Nu nt X) (ho : okσ nt σ) : Call 28 [.ref 16, .int lo, .int hi] (hX u L xs (pS X σ) Z) K ↔ K [.int (pnF Kd Nu lo hi σ).1] (hX u L xs (pS X (pnF Kd Nu lo hi σ).2) Z) := by
  unfold pnF
  by_cases q : Kd σ.1 = 128
  · simp only [en_28, w_28_0, w_28_1, w_28_4, w_28_7, w_28_11, w_28_12, w_28_13, w_28_16, w_28_17, w_28_18, w_28_21, w_28_25, w_28_27, w_28_28, w_28_31, w_28_32, w_28_33, w_28_36, w_28_37, r_kind hc ho, r_number hc ho, c_within, ne_thr, app1, true_and, if_pos q, b2i_z]
    by_cases q2 : ¬ Nu σ.1 < lo ∧ ¬ hi < Nu σ.1
    · rw [if_pos q2, if_pos (by simp [q2])]
      simp only [en_28, w_28_1, w_28_4, w_28_7, w_28_10, w_28_11, w_28_12, w_28_13, w_28_16, w_28_17, w_28_18, w_28_21, w_28_24, w_28_25, w_28_26, w_28_27, w_28_28, w_28_31, w_28_32, w_28_33, w_28_36, w_28_37, pS_165, ic_add1, pS_nx]
      rfl
    · rw [if_neg q2, if_neg (by simpa using q2)]
      simp only [en_28, w_28_1, w_28_4, w_28_7, w_28_10, w_28_11, w_28_12, w_28_13, w_28_16, w_28_17, w_28_18, w_28_21, w_28_24, w_28_25, w_28_26, w_28_27, w_28_28, w_28_31, w_28_32, w_28_33, w_28_36, w_28_37]
  · simp only [en_28, w_28_0, w_28_1, w_28_4, w_28_7, w_28_10, w_28_11, w_28_13, w_28_16, w_28_17, w_28_18, w_28_21, w_28_24, w_28_25, w_28_26, w_28_27, w_28_28, w_28_31, w_28_32, w_28_33, w_28_36, w_28_37, r_kind hc ho, ne_thr, app1, true_and, if_neg q]
theorem r_add {σ : PS} {k v : Int32} (ho : okσ nt σ) : Call 46 [.ref 17, .int k, .int v] (hX u L xs (pS X σ) Z) K ↔ K [] (hX u L xs (pS X (stF k v σ)) Z) := by
  obtain ⟨o1, o2⟩ := ho
  have hq : isRu 17 := Or.inr rfl
  have e8 : (800 ≤ ic σ.2.1) = (¬ σ.2.1 < 800) := by rw [show (800 : Int32) = ic 800 from rfl, ic_le (by omega) (by omega), eq_iff_iff]; omega
  unfold stF
  rw [en_46, w_46_0 hq, w_46_1 hq, w_46_4, w_46_7, pS_175]
  simp only [e8]
  by_cases c : σ.2.1 < 800
  · have ec : (σ.2.1 < 800) = True := eq_true c
    rw [if_neg (by simp [c]), if_pos c, w_46_10 hq, w_46_11 hq, w_46_14 hq, w_46_15 hq, w_46_18, w_46_19, w_46_22, w_46_23, w_46_24, w_46_25 hq, pS_175, inB_ic (by omega), ic_clamp (by omega), show 17 + 4 = 21 from rfl, pS_21]
    simp only [ec, true_and]
    rw [w_46_26 hq, w_46_27 hq, w_46_28 hq, w_46_31, w_46_32, w_46_33 hq, w_46_36]
    have e5 : va_up (pS X σ) 21 (upd σ.2.2 σ.2.1 (k + 256 * v)) 17 5 = ic σ.2.1 := by simp only [va_up]; rw [if_neg (by decide), pS_175]
    rw [e5, ic_add1, pS_st (v := v)]
  · rw [if_pos c, if_neg c, w_46_36]
def cPart (Kd Nu : Nat → Int32) (E : PS → Int32 × PS) (full : Bool) (σ : PS) : Int32 × PS := if ¬ Kd σ.1 = 128 ∧ ¬ Kd σ.1 = 40 ∧ Kd σ.1 < 133 then (1, σ) else if full = true then (5, σ) else if Kd σ.1 = 40 then (if (E (nxF σ)).1 = 0 then paF Kd 41 (E (nxF σ)).2 else E (nxF σ)) else if Kd σ.1 = 139 then ((pnF Kd Nu 0 7 (nxF σ)).1, stF 139 (Nu (σ.1 + 1)) (pnF Kd Nu 0 7 (nxF σ)).2) else (0, stF (Kd σ.1) (Nu σ.1) (nxF σ))
def cSumL (Kd : Nat → Int32) (P : PS → Int32 × PS) : Nat → PS → Int32 × PS
  | 0, σ => (0, σ)
  | n + 1, σ => if Kd σ.1 = 43 ∨ Kd σ.1 = 45 then (if (P (nxF σ)).1 = 0 then cSumL Kd P n (stF (Kd σ.1) 0 (P (nxF σ)).2) else ((P (nxF σ)).1, stF (Kd σ.1) 0 (P (nxF σ)).2)) else (0, σ)
def cSum (Kd : Nat → Int32) (P : PS → Int32 × PS) (σ : PS) : Int32 × PS := if (P σ).1 = 0 then cSumL Kd P 799 (P σ).2 else P σ
/-- a test of an expression: a sum, and a second one behind < or = -/
def cTst (Kd : Nat → Int32) (Sm : PS → Int32 × PS) (σ : PS) : Int32 × PS := if (Sm σ).1 = 0 ∧ (Kd (Sm σ).2.1 = 60 ∨ Kd (Sm σ).2.1 = 61) then ((Sm (nxF (Sm σ).2)).1, stF (Kd (Sm σ).2.1) 0 (Sm (nxF (Sm σ).2)).2) else Sm σ
def cAnd (t : Nat) (σ : PS) : PS := if t = 0 then σ else stF 132 0 σ
def cExpL (Kd : Nat → Int32) (Sm : PS → Int32 × PS) : Nat → Nat → PS → Int32 × PS
  | 0, _, σ => (0, σ)
  | n + 1, t, σ => if (cTst Kd Sm σ).1 = 0 ∧ Kd (cAnd t (cTst Kd Sm σ).2).1 = 132 then cExpL Kd Sm n (t + 1) (nxF (cAnd t (cTst Kd Sm σ).2)) else ((cTst Kd Sm σ).1, cAnd t (cTst Kd Sm σ).2)
def cP (Kd Nu : Nat → Int32) : Nat → PS → Int32 × PS
  | 0 => cPart Kd Nu (fun σ => (0, σ)) true
  | f + 1 => cPart Kd Nu (cExpL Kd (cSum Kd (cP Kd Nu f)) 800 0) false
def Gd (nt : Nat) (F : PS → Int32 × PS) : Prop := ∀ σ, okσ nt σ → okσ nt (F σ).2
section
variable {σ : PS} {c : Int32}
theorem ok_nx (h0 : ∀ i, nt ≤ i → Kd i = 0 ∧ Nu i = 0) (ho : okσ nt σ) (hk : Kd σ.1 ≠ 0) : okσ nt (nxF σ) := by
  refine ⟨?_, ho.2⟩
  show σ.1 + 1 ≤ nt
  apply Classical.byContradiction
  intro q
  exact hk (h0 σ.1 (by omega)).1
theorem ok_st {k v : Int32} (ho : okσ nt σ) : okσ nt (stF k v σ) := by
  unfold stF
  split
  · rename_i q; exact ⟨ho.1, q⟩
  · exact ho
theorem ok_pa (h0 : ∀ i, nt ≤ i → Kd i = 0 ∧ Nu i = 0) (hc : c ≠ 0) : Gd nt (paF Kd c) := by
  intro σ ho
  unfold paF
  split
  · rename_i q; exact ok_nx h0 ho (by rw [q]; exact hc)
  · exact ho
theorem ok_pn {lo hi : Int32} (h0 : ∀ i, nt ≤ i → Kd i = 0 ∧ Nu i = 0) : Gd nt (pnF Kd Nu lo hi) := by
  intro σ ho
  unfold pnF
  split
  · rename_i q
    split
    · exact ok_nx h0 ho (by rw [q]; decide)
    · exact ho
  · exact ho
theorem ok_part {E : PS → Int32 × PS} {full : Bool} (h0 : ∀ i, nt ≤ i → Kd i = 0 ∧ Nu i = 0) (hE : Gd nt E) : Gd nt (cPart Kd Nu E full) := by
  intro σ ho
  unfold cPart
  split
  · exact ho
  · rename_i q
    split
    · exact ho
    · have hn : okσ nt (nxF σ) := ok_nx h0 ho (fun e => q ⟨by rw [e]; decide, by rw [e]; decide, by rw [e]; decide⟩)
      split
      · split
        · exact ok_pa h0 (by decide) _ (hE _ hn)
        · exact hE _ hn
      · split
        · exact ok_st (ok_pn h0 _ hn)
        · exact ok_st hn
theorem ok_sumL {P : PS → Int32 × PS} (h0 : ∀ i, nt ≤ i → Kd i = 0 ∧ Nu i = 0) (hP : Gd nt P) : ∀ n, Gd nt (cSumL Kd P n) := by
  intro n
  induction n with
  | zero => intro σ ho; exact ho
  | succ n ih =>
    intro σ ho
    unfold cSumL
    split
    · rename_i q
      have hn : okσ nt (nxF σ) := ok_nx h0 ho (by rcases q with q | q <;> rw [q] <;> decide)
      split
      · exact ih _ (ok_st (hP _ hn))
      · exact ok_st (hP _ hn)
    · exact ho
theorem ok_sum {P : PS → Int32 × PS} (h0 : ∀ i, nt ≤ i → Kd i = 0 ∧ Nu i = 0) (hP : Gd nt P) : Gd nt (cSum Kd P) := by
  intro σ ho
  unfold cSum
  split
  · exact ok_sumL h0 hP _ _ (hP _ ho)
  · exact hP _ ho
theorem ok_tst {P : PS → Int32 × PS} (h0 : ∀ i, nt ≤ i → Kd i = 0 ∧ Nu i = 0) (hP : Gd nt P) : Gd nt (cTst Kd P) := by
  intro σ ho
  unfold cTst
  split
  · rename_i q
    exact ok_st (hP _ (ok_nx h0 (hP _ ho) (by rcases q.2 with q | q <;> rw [q] <;> decide)))
  · exact hP _ ho
theorem ok_and {t : Nat} (ho : okσ nt σ) : okσ nt (cAnd t σ) := by
  unfold cAnd
  split
  · exact ho
  · exact ok_st ho
theorem ok_expL {P : PS → Int32 × PS} (h0 : ∀ i, nt ≤ i → Kd i = 0 ∧ Nu i = 0) (hP : Gd nt P) : ∀ n t, Gd nt (cExpL Kd P n t) := by
  intro n
  induction n with
  | zero => intro t σ ho; exact ho
  | succ n ih =>
    intro t σ ho
    have h1 := ok_and (t := t) (ok_tst h0 hP σ ho)
    unfold cExpL
    split
    · rename_i q
      exact ih _ _ (ok_nx h0 h1 (by rw [q.2]; decide))
    · exact h1
theorem ok_P (h0 : ∀ i, nt ≤ i → Kd i = 0 ∧ Nu i = 0) : ∀ f, Gd nt (cP Kd Nu f) := by
  intro f
  induction f with
  | zero => exact ok_part h0 (fun σ ho => ho)
  | succ f ih => exact ok_part h0 (ok_expL h0 (ok_sum h0 ih) _ _)
end
end
