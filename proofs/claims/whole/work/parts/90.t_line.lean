/-! TEXT: the class's lines -/
section
variable {u : Nat × Nat} {L : Nat} {xs : Nat → Int32} {X X' : Nat → Nat → Int32} {Z Z' : Nat → Nat → Int64} {K : List Value → AH → Prop} {V W : Nat → Nat → Int32} {Kd Nu : Nat → Int32} {nt : Nat} {E : PS → Int32 × PS}
abbrev LnS : Type := Nat × (Nat → Int32) × (Nat → Int32) × (Nat → Int32)
def lS (X : Nat → Nat → Int32) (ℓ : LnS) : Nat → Nat → Int32 := fun a => if a = 17 then upd (X 17) 0 (ic ℓ.1) else if a = 18 then ℓ.2.1 else if a = 19 then ℓ.2.2.1 else if a = 20 then ℓ.2.2.2 else X a
def alF (pl wa : Int32) (z : Nat) (ℓ : LnS) : LnS := if ℓ.1 < 24 then (ℓ.1 + 1, upd ℓ.2.1 ℓ.1 pl, upd ℓ.2.2.1 ℓ.1 wa, upd ℓ.2.2.2 ℓ.1 (ic z)) else ℓ
section
variable {ℓ : LnS} {σ : PS}
theorem lS_n {a : Nat} (h : a < 17 ∨ 20 < a) : lS X ℓ a = X a := by
  unfold lS
  rw [if_neg (by omega), if_neg (by omega), if_neg (by omega), if_neg (by omega)]
theorem CE_l (h : CE Kd Nu nt X) : CE Kd Nu nt (lS X ℓ) := by
  unfold CE
  rw [lS_n (by decide), lS_n (by decide), lS_n (by decide)]
  exact h
theorem pl_0 : pS (lS X ℓ) σ 17 0 = ic ℓ.1 := by rw [pS_170]; simp [lS, upd]
theorem pl_18 : pS (lS X ℓ) σ 18 = ℓ.2.1 := by rw [pS_n (by decide) (by decide) (by decide)]; simp [lS]
theorem pl_19 : pS (lS X ℓ) σ 19 = ℓ.2.2.1 := by rw [pS_n (by decide) (by decide) (by decide)]; simp [lS]
theorem pl_20 : pS (lS X ℓ) σ 20 = ℓ.2.2.2 := by rw [pS_n (by decide) (by decide) (by decide)]; simp [lS]
theorem pl_up {P W E : Nat → Int32} {n : Nat} : va_up (va_up (va_up (va_up (pS (lS X ℓ) σ) 18 P) 19 W) 20 E) 17 (upd (va_up (va_up (va_up (pS (lS X ℓ) σ) 18 P) 19 W) 20 E 17) 0 (ic n)) = pS (lS X (n, P, W, E)) σ := by
  funext a i
  simp only [pS, lS, va_up]
  by_cases h17 : a = 17
  · subst h17
    by_cases h0 : i = 0
    · subst h0; simp [upd]
    · by_cases h5 : i = 5 <;> simp [upd, h0, h5]
  · by_cases h18 : a = 18
    · subst h18; simp
    · by_cases h19 : a = 19
      · subst h19; simp
      · by_cases h20 : a = 20
        · subst h20; simp
        · simp [h17, h18, h19, h20]
theorem r_addL {pl wa : Int32} (hl : ℓ.1 ≤ 24) (hz : σ.2.1 ≤ 800) : Call 47 [.ref 17, .int pl, .int wa] (hX u L xs (pS (lS X ℓ) σ) Z) K ↔ K [] (hX u L xs (pS (lS X (alF pl wa σ.2.1 ℓ)) σ) Z) := by
  have hq : isRu 17 := Or.inr rfl
  have e24 : (24 ≤ ic ℓ.1) = (¬ ℓ.1 < 24) := by rw [show (24 : Int32) = ic 24 from rfl, ic_le (by omega) (by omega), eq_iff_iff]; omega
  unfold alF
  rw [en_47, w_47_0 hq, w_47_1 hq, w_47_4, w_47_6, pl_0]
  simp only [e24]
  by_cases c : ℓ.1 < 24
  · have ec : (ℓ.1 < 24) = True := eq_true c
    rw [if_neg (by simp [c]), if_pos c, w_47_9 hq, w_47_10 hq, w_47_13 hq, w_47_14 hq, pl_0, w_47_17, w_47_18 hq, inB_ic (by omega), ic_clamp (by omega), show 17 + 1 = 18 from rfl, pl_18]
    simp only [ec, true_and]
    have a1 : ∀ P : Nat → Int32, va_up (pS (lS X ℓ) σ) 18 P 17 = pS (lS X ℓ) σ 17 := fun P => by simp [va_up]
    have a2 : ∀ P : Nat → Int32, va_up (pS (lS X ℓ) σ) 18 P 19 = ℓ.2.2.1 := fun P => by rw [show va_up (pS (lS X ℓ) σ) 18 P 19 = pS (lS X ℓ) σ 19 by simp [va_up]]; exact pl_19
    rw [w_47_19 hq, w_47_20 hq, w_47_23 hq, w_47_24 hq, a1, pl_0, w_47_27, w_47_28 hq, inB_ic (by omega), ic_clamp (by omega), show 17 + 2 = 19 from rfl, a2]
    simp only [ec, true_and]
    have b1 : ∀ P W : Nat → Int32, va_up (va_up (pS (lS X ℓ) σ) 18 P) 19 W 17 = pS (lS X ℓ) σ 17 := fun P W => by simp [va_up]
    have b2 : ∀ P W : Nat → Int32, va_up (va_up (pS (lS X ℓ) σ) 18 P) 19 W 20 = ℓ.2.2.2 := fun P W => by rw [show va_up (va_up (pS (lS X ℓ) σ) 18 P) 19 W 20 = pS (lS X ℓ) σ 20 by simp [va_up]]; exact pl_20
    rw [w_47_29 hq, w_47_30 hq, w_47_33 hq, w_47_34 hq, b1, pl_0, w_47_37 hq, w_47_38 hq, b1, pS_175, w_47_41 hq, inB_ic (by omega), ic_clamp (by omega), show 17 + 3 = 20 from rfl, b2]
    simp only [ec, true_and]
    have c1 : ∀ P W E : Nat → Int32, va_up (va_up (va_up (pS (lS X ℓ) σ) 18 P) 19 W) 20 E 17 0 = ic ℓ.1 := fun P W E => by rw [show va_up (va_up (va_up (pS (lS X ℓ) σ) 18 P) 19 W) 20 E 17 = pS (lS X ℓ) σ 17 by simp [va_up]]; exact pl_0
    rw [w_47_42 hq, w_47_43 hq, w_47_44 hq, c1, w_47_47, w_47_48, ic_add1, w_47_49 hq, w_47_52, pl_up]
  · rw [if_pos c, if_neg c, w_47_52]
end
def bnd (r : Int32 × PS) (F : PS → Int32 × PS) : Int32 × PS := if r.1 = 0 then F r.2 else r
theorem bnd_ok {r : Int32 × PS} {F : PS → Int32 × PS} (ho : okσ nt r.2) (hF : Gd nt F) : okσ nt (bnd r F).2 := by
  unfold bnd
  split
  · exact hF _ ho
  · exact ho
def q2F (Kd Nu : Nat → Int32) (np : Int32) (σ : PS) : Int32 × PS := bnd (paF Kd 129 σ) (pnF Kd Nu 0 (np - 1))
def q3F (Kd Nu : Nat → Int32) (np : Int32) (σ : PS) : Int32 × PS := bnd (q2F Kd Nu np σ) (paF Kd 130)
def q5F (Kd Nu : Nat → Int32) (np : Int32) (σ : PS) : Int32 × PS := bnd (bnd (q3F Kd Nu np σ) (pnF Kd Nu 1 60)) (paF Kd 131)
def q7F (Kd Nu : Nat → Int32) (E : PS → Int32 × PS) (np : Int32) (σ : PS) : Int32 × PS := bnd (bnd (q5F Kd Nu np σ) E) (paF Kd 59)
def cLn (Kd Nu : Nat → Int32) (E : PS → Int32 × PS) (np : Int32) (i : Nat) (σ : PS) (ℓ : LnS) : Int32 × PS × LnS := if Kd σ.1 = 129 ∧ 24 ≤ i then (5, σ, ℓ) else ((q7F Kd Nu E np σ).1, (q7F Kd Nu E np σ).2, alF (Nu (paF Kd 129 σ).2.1) (Nu (q3F Kd Nu np σ).2.1) (q7F Kd Nu E np σ).2.2.1 ℓ)
theorem w_29_113 {l0 l1 l2 l3 l4 l5 : Value} {Q : List Value → AH → Prop} : WP 29 0 113 [l0, l1, l2, l3, l4, l5] [.int 0, .ref 16] (hX u L xs X Z) Q ↔ Call 30 [.ref 16, .int (ic 0)] (hX u L xs X Z) (fun rv h' => rv ≠ [thr] ∧ WP 29 0 116 [l0, l1, l2, l3, l4, l5] (rv ++ []) h' Q) := w_callV (k' := 30) (as := [.ref 16, .int 0]) (r := []) (show decode (mCode 29) 113 = .ok (.invokevirtual 103, 3) by decide +kernel) (by decide +kernel) rfl rfl (Nat.le_of_ble_eq_true rfl) rfl rfl rfl (Nat.le_of_ble_eq_true rfl) (by rw [show (.int 0 : Value) = .int (ic 0) from rfl, dp30 (by decide) (by omega)]; decide +kernel)
theorem ok_E (h0 : ∀ i, nt ≤ i → Kd i = 0 ∧ Nu i = 0) : Gd nt (cE Kd Nu) := ok_expL h0 (ok_sum h0 (ok_P h0 5)) _ _
theorem r_line {σ : PS} {ℓ : LnS} {np : Int32} {i : Nat} (hc : CE Kd Nu nt X) (hE : ∀ ℓ, Rd u L xs (lS X ℓ) Z nt 30 0 E) (hG : Gd nt E) (ho : okσ nt σ) (hl : ℓ.1 ≤ 24) (hi : i ≤ 24) : Call 29 [.ref 16, .int (ic i), .int np] (hX u L xs (pS (lS X ℓ) σ) Z) K ↔ K [.int (cLn Kd Nu E np i σ ℓ).1] (hX u L xs (pS (lS X (cLn Kd Nu E np i σ ℓ).2.2) (cLn Kd Nu E np i σ ℓ).2.1) Z) := by
  have h0 := hc.2.2.2
  have hc' : CE Kd Nu nt (lS X ℓ) := CE_l hc
  have h132 : ∀ (r : Int32 × PS) (pl wa : Int32), okσ nt r.2 → (WP 29 0 132 [.ref 16, .int (ic i), .int np, .int r.1, .int pl, .int wa] [] (hX u L xs (pS (lS X ℓ) r.2) Z) K ↔ K [.int r.1] (hX u L xs (pS (lS X (alF pl wa r.2.2.1 ℓ)) r.2) Z)) := by
    intro r pl wa hr
    rw [w_29_132, w_29_133, w_29_136, w_29_138, w_29_140, r_addL hl hr.2]
    simp only [ne_thr0, app0, true_and, w_29_143, w_29_144]
  have h117 : ∀ (r : Int32 × PS) (pl wa : Int32), okσ nt r.2 → (WP 29 0 117 [.ref 16, .int (ic i), .int np, .int r.1, .int pl, .int wa] [] (hX u L xs (pS (lS X ℓ) r.2) Z) K ↔ K [.int (bnd r (paF Kd 59)).1] (hX u L xs (pS (lS X (alF pl wa (bnd r (paF Kd 59)).2.2.1 ℓ)) (bnd r (paF Kd 59)).2) Z)) := by
    intro r pl wa hr
    rw [w_29_117, w_29_118]
    by_cases c : r.1 = 0
    · have e : bnd r (paF Kd 59) = paF Kd 59 r.2 := by unfold bnd; rw [if_pos c]
      rw [if_pos c, e, w_29_125, w_29_126, w_29_128, r_pass hc' hr]
      simp only [ne_thr, app1, true_and, w_29_131]
      exact h132 _ _ _ (ok_pa h0 (by decide) _ hr)
    · have e : bnd r (paF Kd 59) = r := by unfold bnd; rw [if_neg c]
      rw [if_neg c, e, w_29_121, w_29_122, w_29_131]
      exact h132 _ _ _ hr
  have h103 : ∀ (r : Int32 × PS) (pl wa : Int32), okσ nt r.2 → (WP 29 0 103 [.ref 16, .int (ic i), .int np, .int r.1, .int pl, .int wa] [] (hX u L xs (pS (lS X ℓ) r.2) Z) K ↔ K [.int (bnd (bnd r E) (paF Kd 59)).1] (hX u L xs (pS (lS X (alF pl wa (bnd (bnd r E) (paF Kd 59)).2.2.1 ℓ)) (bnd (bnd r E) (paF Kd 59)).2) Z)) := by
    intro r pl wa hr
    rw [w_29_103, w_29_104]
    by_cases c : r.1 = 0
    · have e : bnd r E = E r.2 := by unfold bnd; rw [if_pos c]
      rw [if_pos c, e, w_29_111, w_29_112, w_29_113, hE ℓ _ _ hr]
      simp only [ne_thr, app1, true_and, w_29_116]
      exact h117 _ _ _ (hG _ hr)
    · have e : bnd r E = r := by unfold bnd; rw [if_neg c]
      rw [if_neg c, e, w_29_107, w_29_108, w_29_116]
      exact h117 _ _ _ hr
  have h87 : ∀ (r : Int32 × PS) (pl wa : Int32), okσ nt r.2 → (WP 29 0 87 [.ref 16, .int (ic i), .int np, .int r.1, .int pl, .int wa] [] (hX u L xs (pS (lS X ℓ) r.2) Z) K ↔ K [.int (bnd (bnd (bnd r (paF Kd 131)) E) (paF Kd 59)).1] (hX u L xs (pS (lS X (alF pl wa (bnd (bnd (bnd r (paF Kd 131)) E) (paF Kd 59)).2.2.1 ℓ)) (bnd (bnd (bnd r (paF Kd 131)) E) (paF Kd 59)).2) Z)) := by
    intro r pl wa hr
    rw [w_29_87, w_29_88]
    by_cases c : r.1 = 0
    · have e : bnd r (paF Kd 131) = paF Kd 131 r.2 := by unfold bnd; rw [if_pos c]
      rw [if_pos c, e, w_29_95, w_29_96, w_29_99, r_pass hc' hr]
      simp only [ne_thr, app1, true_and, w_29_102]
      exact h103 _ _ _ (ok_pa h0 (by decide) _ hr)
    · have e : bnd r (paF Kd 131) = r := by unfold bnd; rw [if_neg c]
      rw [if_neg c, e, w_29_91, w_29_92, w_29_102]
      exact h103 _ _ _ hr
  have h65 : ∀ (r : Int32 × PS) (pl : Int32) (l5 : Value), okσ nt r.2 → (WP 29 0 65 [.ref 16, .int (ic i), .int np, .int r.1, .int pl, l5] [] (hX u L xs (pS (lS X ℓ) r.2) Z) K ↔ K [.int (bnd (bnd (bnd (bnd r (pnF Kd Nu 1 60)) (paF Kd 131)) E) (paF Kd 59)).1] (hX u L xs (pS (lS X (alF pl (Nu r.2.1) (bnd (bnd (bnd (bnd r (pnF Kd Nu 1 60)) (paF Kd 131)) E) (paF Kd 59)).2.2.1 ℓ)) (bnd (bnd (bnd (bnd r (pnF Kd Nu 1 60)) (paF Kd 131)) E) (paF Kd 59)).2) Z)) := by
    intro r pl l5 hr
    rw [w_29_65, w_29_66, r_number hc' hr]
    simp only [ne_thr, app1, true_and, w_29_69, w_29_71, w_29_72]
    by_cases c : r.1 = 0
    · have e : bnd r (pnF Kd Nu 1 60) = pnF Kd Nu 1 60 r.2 := by unfold bnd; rw [if_pos c]
      rw [if_pos c, e, w_29_79, w_29_80, w_29_81, w_29_83, r_passN hc' hr]
      simp only [ne_thr, app1, true_and, w_29_86]
      exact h87 _ _ _ (ok_pn h0 _ hr)
    · have e : bnd r (pnF Kd Nu 1 60) = r := by unfold bnd; rw [if_neg c]
      rw [if_neg c, e, w_29_75, w_29_76, w_29_86]
      exact h87 _ _ _ hr
  have h49 : ∀ (r : Int32 × PS) (pl : Int32) (l5 : Value), okσ nt r.2 → (WP 29 0 49 [.ref 16, .int (ic i), .int np, .int r.1, .int pl, l5] [] (hX u L xs (pS (lS X ℓ) r.2) Z) K ↔ K [.int (bnd (bnd (bnd (bnd (bnd r (paF Kd 130)) (pnF Kd Nu 1 60)) (paF Kd 131)) E) (paF Kd 59)).1] (hX u L xs (pS (lS X (alF pl (Nu (bnd r (paF Kd 130)).2.1) (bnd (bnd (bnd (bnd (bnd r (paF Kd 130)) (pnF Kd Nu 1 60)) (paF Kd 131)) E) (paF Kd 59)).2.2.1 ℓ)) (bnd (bnd (bnd (bnd (bnd r (paF Kd 130)) (pnF Kd Nu 1 60)) (paF Kd 131)) E) (paF Kd 59)).2) Z)) := by
    intro r pl l5 hr
    rw [w_29_49, w_29_50]
    by_cases c : r.1 = 0
    · have e : bnd r (paF Kd 130) = paF Kd 130 r.2 := by unfold bnd; rw [if_pos c]
      rw [if_pos c, e, w_29_57, w_29_58, w_29_61, r_pass hc' hr]
      simp only [ne_thr, app1, true_and, w_29_64]
      exact h65 _ _ _ (ok_pa h0 (by decide) _ hr)
    · have e : bnd r (paF Kd 130) = r := by unfold bnd; rw [if_neg c]
      rw [if_neg c, e, w_29_53, w_29_54, w_29_64]
      exact h65 _ _ _ hr
  have h18 : ∀ l3 l4 l5 : Value, (WP 29 0 18 [.ref 16, .int (ic i), .int np, l3, l4, l5] [] (hX u L xs (pS (lS X ℓ) σ) Z) K ↔ K [.int (q7F Kd Nu E np σ).1] (hX u L xs (pS (lS X (alF (Nu (paF Kd 129 σ).2.1) (Nu (q3F Kd Nu np σ).2.1) (q7F Kd Nu E np σ).2.2.1 ℓ)) (q7F Kd Nu E np σ).2) Z)) := by
    intro l3 l4 l5
    have hr := ok_pa (Kd := Kd) (Nu := Nu) h0 (show (129 : Int32) ≠ 0 by decide) σ ho
    rw [w_29_18, w_29_19, w_29_22, r_pass hc' ho]
    simp only [ne_thr, app1, true_and, w_29_25, w_29_26, w_29_27]
    rw [r_number hc' hr]
    simp only [ne_thr, app1, true_and, w_29_30, w_29_32, w_29_33]
    unfold q7F q5F q3F q2F
    by_cases c : (paF Kd 129 σ).1 = 0
    · have e : bnd (paF Kd 129 σ) (pnF Kd Nu 0 (np - 1)) = pnF Kd Nu 0 (np - 1) (paF Kd 129 σ).2 := by unfold bnd; rw [if_pos c]
      rw [if_pos c, e, w_29_40, w_29_41, w_29_42, w_29_43, w_29_44, w_29_45, r_passN hc' hr]
      simp only [ne_thr, app1, true_and, w_29_48]
      exact h49 _ _ _ (ok_pn h0 _ hr)
    · have e : bnd (paF Kd 129 σ) (pnF Kd Nu 0 (np - 1)) = paF Kd 129 σ := by unfold bnd; rw [if_neg c]
      rw [if_neg c, e, w_29_36, w_29_37, w_29_48]
      exact h49 _ _ _ hr
  have ey : ¬ (Kd σ.1 = 129 ∧ 24 ≤ i) → cLn Kd Nu E np i σ ℓ = ((q7F Kd Nu E np σ).1, (q7F Kd Nu E np σ).2, alF (Nu (paF Kd 129 σ).2.1) (Nu (q3F Kd Nu np σ).2.1) (q7F Kd Nu E np σ).2.2.1 ℓ) := by
    intro z
    unfold cLn
    rw [if_neg z]
  rw [en_29, w_29_0, w_29_1, r_kind hc' ho]
  simp only [ne_thr, app1, true_and, w_29_4, w_29_7]
  have e24 : (ic i < 24) = (i < 24) := by rw [show (24 : Int32) = ic 24 from rfl, ic_lt (by omega) (by omega)]
  by_cases c : Kd σ.1 = 129
  · rw [if_neg (by simp [c]), w_29_10, w_29_11, w_29_13]
    simp only [e24]
    by_cases c2 : i < 24
    · rw [if_pos c2, ey (fun z => absurd z.2 (by omega))]; dsimp only; exact h18 poi poi poi
    · have en : cLn Kd Nu E np i σ ℓ = (5, σ, ℓ) := by unfold cLn; rw [if_pos ⟨c, by omega⟩]
      rw [if_neg c2, en, w_29_16, w_29_17]
  · rw [if_pos c, ey (fun z => c z.1)]; dsimp only; exact h18 poi poi poi
def cRd (Kd Nu : Nat → Int32) (E : PS → Int32 × PS) (np : Int32) : Nat → Nat → PS → LnS → Int32 × PS × LnS
  | 0, _, σ, ℓ => (0, σ, ℓ)
  | m + 1, i, σ, ℓ => if Kd σ.1 = 0 then (0, σ, ℓ) else if (cLn Kd Nu E np i σ ℓ).1 = 0 then cRd Kd Nu E np m (i + 1) (cLn Kd Nu E np i σ ℓ).2.1 (cLn Kd Nu E np i σ ℓ).2.2 else cLn Kd Nu E np i σ ℓ
theorem ok_7 (h0 : ∀ i, nt ≤ i → Kd i = 0 ∧ Nu i = 0) (hG : Gd nt E) {np : Int32} : Gd nt (q7F Kd Nu E np) := by
  intro σ ho
  unfold q7F q5F q3F q2F
  exact bnd_ok (bnd_ok (bnd_ok (bnd_ok (bnd_ok (bnd_ok (ok_pa h0 (by decide) _ ho) (ok_pn h0)) (ok_pa h0 (by decide))) (ok_pn h0)) (ok_pa h0 (by decide))) hG) (ok_pa h0 (by decide))
theorem al_b {pl wa : Int32} {z : Nat} {ℓ : LnS} (h : ℓ.1 ≤ 24) : (alF pl wa z ℓ).1 ≤ 24 := by
  unfold alF
  split
  · rename_i c; exact c
  · exact h
theorem ok_Ln (h0 : ∀ i, nt ≤ i → Kd i = 0 ∧ Nu i = 0) (hG : Gd nt E) {np : Int32} {i : Nat} {σ : PS} {ℓ : LnS} (ho : okσ nt σ) (hl : ℓ.1 ≤ 24) : okσ nt (cLn Kd Nu E np i σ ℓ).2.1 ∧ (cLn Kd Nu E np i σ ℓ).2.2.1 ≤ 24 := by
  unfold cLn
  split
  · exact ⟨ho, hl⟩
  · refine ⟨?_, ?_⟩
    · have := ok_7 (np := np) h0 hG σ ho
      dsimp only
      exact this
    · have := al_b (pl := (Nu (paF Kd 129 σ).2.1)) (wa := (Nu (q3F Kd Nu np σ).2.1)) (z := (q7F Kd Nu E np σ).2.2.1) hl
      dsimp only
      exact this
theorem l_read {np : Int32} (hc : CE Kd Nu nt X) (hE : ∀ ℓ, Rd u L xs (lS X ℓ) Z nt 30 0 E) (hG : Gd nt E) : ∀ m i σ ℓ, i + m = 25 → okσ nt σ → ℓ.1 ≤ 24 → (∀ l4, okσ nt (cRd Kd Nu E np m i σ ℓ).2.1 → (cRd Kd Nu E np m i σ ℓ).2.2.1 ≤ 24 → WP 21 0 54 [.ref 16, .ref 9, .int np, .int (cRd Kd Nu E np m i σ ℓ).1, l4] [] (hX u L xs (pS (lS X (cRd Kd Nu E np m i σ ℓ).2.2) (cRd Kd Nu E np m i σ ℓ).2.1) Z) K) → WP 21 0 22 [.ref 16, .ref 9, .int np, .int 0, .int (ic i)] [] (hX u L xs (pS (lS X ℓ) σ) Z) K := by
  have h0 := hc.2.2.2
  intro m
  induction m with
  | zero =>
    intro i σ ℓ hi ho hl hK
    have e : i = 25 := by omega
    subst e
    rw [w_21_22, w_21_24, w_21_26, if_pos (by decide)]
    exact hK _ ho hl
  | succ m ih =>
    intro i σ ℓ hi ho hl hK
    unfold cRd at hK
    have e24 : (24 < ic i) = False := by rw [show (24 : Int32) = ic 24 from rfl, ic_lt (by omega) (by omega)]; exact eq_false (by omega)
    obtain ⟨q1, q2⟩ := ok_Ln (np := np) (i := i) h0 hG ho hl
    rw [w_21_22, w_21_24, w_21_26]
    simp only [e24, if_false, w_21_29, w_21_30, not_true_eq_false, w_21_33, w_21_34]
    rw [r_kind (CE_l hc) ho]
    simp only [ne_thr, app1, true_and, w_21_37]
    by_cases c : Kd σ.1 = 0
    · rw [if_pos c] at hK ⊢
      exact hK _ ho hl
    · rw [if_neg c] at hK ⊢
      simp only [w_21_40, w_21_41, w_21_43, w_21_44]
      rw [r_line hc hE hG ho hl (by omega)]
      simp only [ne_thr, app1, true_and, w_21_47, w_21_48, w_21_51, ic_add1]
      by_cases c2 : (cLn Kd Nu E np i σ ℓ).1 = 0
      · rw [if_pos c2] at hK
        rw [c2]
        exact ih (i + 1) _ _ (by omega) q1 q2 hK
      · rw [if_neg c2] at hK
        have fin := hK (.int (ic (i + 1))) q1 q2
        rw [w_21_22, w_21_24, w_21_26]
        by_cases c3 : 24 < ic (i + 1)
        · rw [if_pos c3]; exact fin
        · rw [if_neg c3, w_21_29, w_21_30, if_pos c2]; exact fin
end
