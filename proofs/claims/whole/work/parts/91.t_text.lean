/-! TEXT: the class's call -/
section
variable {u : Nat × Nat} {L : Nat} {xs : Nat → Int32} {X X' : Nat → Nat → Int32} {Z Z' : Nat → Nat → Int64} {K : List Value → AH → Prop} {V W : Nat → Nat → Int32} {Kd Nu : Nat → Int32} {nt n : Nat} {E : PS → Int32 × PS} {T : Nat → Int32}
def R5 (f : Int32) : Prop := f = 0 ∨ f = 1 ∨ f = 4 ∨ f = 5
def Fr5 (F : PS → Int32 × PS) : Prop := ∀ σ, R5 (F σ).1
theorem f5_pa {c : Int32} : Fr5 (paF Kd c) := by
  intro σ
  unfold paF
  split
  · exact Or.inl rfl
  · exact Or.inr (Or.inl rfl)
theorem f5_pn {lo hi : Int32} : Fr5 (pnF Kd Nu lo hi) := by
  intro σ
  unfold pnF
  split
  · split
    · exact Or.inl rfl
    · exact Or.inr (Or.inr (Or.inl rfl))
  · exact Or.inr (Or.inl rfl)
theorem f5_part {full : Bool} (hE : Fr5 E) : Fr5 (cPart Kd Nu E full) := by
  intro σ
  unfold cPart
  split
  · exact Or.inr (Or.inl rfl)
  · split
    · exact Or.inr (Or.inr (Or.inr rfl))
    · split
      · split
        · exact f5_pa _
        · exact hE _
      · split
        · exact f5_pn (lo := 0) (hi := 7) (nxF σ)
        · exact Or.inl rfl
theorem f5_sumL {P : PS → Int32 × PS} (hP : Fr5 P) : ∀ m, Fr5 (cSumL Kd P m) := by
  intro m
  induction m with
  | zero => intro σ; exact Or.inl rfl
  | succ m ih =>
    intro σ
    unfold cSumL
    split
    · split
      · exact ih _
      · exact hP (nxF σ)
    · exact Or.inl rfl
theorem f5_sum {P : PS → Int32 × PS} (hP : Fr5 P) : Fr5 (cSum Kd P) := by
  intro σ
  unfold cSum
  split
  · exact f5_sumL hP 799 (P σ).2
  · exact hP _
theorem f5_tst {P : PS → Int32 × PS} (hP : Fr5 P) : Fr5 (cTst Kd P) := by
  intro σ
  unfold cTst
  split
  · exact hP (nxF (P σ).2)
  · exact hP _
theorem f5_expL {P : PS → Int32 × PS} (hP : Fr5 P) : ∀ m t, Fr5 (cExpL Kd P m t) := by
  intro m
  induction m with
  | zero => intro t σ; exact Or.inl rfl
  | succ m ih =>
    intro t σ
    unfold cExpL
    split
    · exact ih _ _
    · exact f5_tst hP σ
theorem f5_P : ∀ f, Fr5 (cP Kd Nu f) := by
  intro f
  induction f with
  | zero => exact f5_part (fun σ => Or.inl rfl)
  | succ f ih => exact f5_part (f5_expL (f5_sum ih) 800 0)
theorem f5_E : Fr5 (cE Kd Nu) := f5_expL (f5_sum (f5_P 5)) 800 0
theorem f5_bnd {r : Int32 × PS} {F : PS → Int32 × PS} (hr : R5 r.1) (hF : Fr5 F) : R5 (bnd r F).1 := by
  unfold bnd
  split
  · exact hF _
  · exact hr
theorem f5_Ln {np : Int32} {i : Nat} {σ : PS} {ℓ : LnS} (hE : Fr5 E) : R5 (cLn Kd Nu E np i σ ℓ).1 := by
  unfold cLn
  split
  · exact Or.inr (Or.inr (Or.inr rfl))
  · dsimp only
    unfold q7F q5F q3F q2F
    exact f5_bnd (f5_bnd (f5_bnd (f5_bnd (f5_bnd (f5_bnd (f5_pa σ) f5_pn) f5_pa) f5_pn) f5_pa) hE) f5_pa
theorem f5_Rd {np : Int32} (hE : Fr5 E) : ∀ m i σ ℓ, R5 (cRd Kd Nu E np m i σ ℓ).1 := by
  intro m
  induction m with
  | zero => intro i σ ℓ; exact Or.inl rfl
  | succ m ih =>
    intro i σ ℓ
    unfold cRd
    split
    · exact Or.inl rfl
    · split
      · exact ih _ _ _
      · exact f5_Ln hE
theorem R5_N {f : Int32} (h : R5 f) (h0 : f ≠ 0) : ∃ m, 0 < m ∧ m ≤ 5 ∧ f = ic m := by
  rcases h with h | h | h | h
  · exact absurd h h0
  · exact ⟨1, by omega, by omega, h⟩
  · exact ⟨4, by omega, by omega, h⟩
  · exact ⟨5, by omega, by omega, h⟩
def spF (l : List (Nat × Nat)) (n p : Nat) : Int32 := if p < l.length then ic (l.getD p (0, 0)).1 else ic n
def kdL (T : Nat → Int32) (l : List (Nat × Nat)) (i : Nat) : Int32 := if i < l.length then kdT T (l.getD i (0, 0)).1 (l.getD i (0, 0)).2 else 0
def nuL (T : Nat → Int32) (l : List (Nat × Nat)) (i : Nat) : Int32 := if i < l.length then nuT T (l.getD i (0, 0)).1 (l.getD i (0, 0)).2 else 0
def ansF (l : List (Nat × Nat)) (n : Nat) (r : Int32 × PS × LnS) : Int32 := if r.1 = 0 then 0 else r.1 + 16 * spF l n r.2.1.1
theorem CE_tk {l : List (Nat × Nat)} (h8 : l.length ≤ 800) (h : TKs T l 0 X) : CE (kdL T l) (nuL T l) l.length X := by
  obtain ⟨h1, h2⟩ := h
  rw [Nat.zero_add] at h1
  refine ⟨h8, h1, fun i hi => ?_, fun i hi => ?_⟩
  · obtain ⟨a, b, _⟩ := h2 i hi
    rw [Nat.zero_add] at a b
    unfold kdL nuL
    rw [if_pos hi, if_pos hi]
    exact ⟨a, b⟩
  · unfold kdL nuL
    rw [if_neg (by omega), if_neg (by omega)]
    exact ⟨rfl, rfl⟩
theorem lex_len : ∀ d k, k ≤ n → (lexF T n d k).length + k ≤ n := by
  intro d
  induction d with
  | zero => intro k hk; simp [lexF]; exact hk
  | succ d ih =>
    intro k hk
    unfold lexF
    by_cases c : n ≤ k
    · rw [if_pos c]; simp; exact hk
    · rw [if_neg c]
      obtain ⟨b1, b2⟩ := eF_b (T := T) (n := n) (k := k) (by omega)
      have := ih (eF T n k) b2
      split
      · omega
      · rw [List.length_cons]; omega
theorem clr_eq (X1 : Nat → Nat → Int32) : va_up (va_up (va_up X1 17 (upd (X1 17) 0 0)) 17 (upd (va_up X1 17 (upd (X1 17) 0 0) 17) 5 0)) 16 (upd (va_up (va_up X1 17 (upd (X1 17) 0 0)) 17 (upd (va_up X1 17 (upd (X1 17) 0 0) 17) 5 0) 16) 5 0) = pS (lS X1 (0, X1 18, X1 19, X1 20)) (0, 0, X1 21) := by
  funext a i
  simp only [pS, lS, va_up]
  by_cases h16 : a = 16
  · subst h16; by_cases h5 : i = 5 <;> simp [upd, h5, ic]
  · by_cases h17 : a = 17
    · subst h17
      by_cases h0 : i = 0
      · subst h0; simp [upd, ic]
      · by_cases h5 : i = 5 <;> simp [upd, h0, h5, ic]
    · by_cases h18 : a = 18
      · subst h18; simp
      · by_cases h19 : a = 19
        · subst h19; simp
        · by_cases h20 : a = 20
          · subst h20; simp
          · by_cases h21 : a = 21
            · subst h21; simp
            · simp [h16, h17, h18, h19, h20, h21]
theorem c_read {np : Int32} (hn : n ≤ 800) (hT : ∀ i, i < n → cts (T i)) (h9 : X 9 1 = ic n) (h10 : X 10 = T) (hE : ∀ X', CE (kdL T (lexF T n 800 0)) (nuL T (lexF T n 800 0)) (lexF T n 800 0).length X' → Rd u L xs X' Z (lexF T n 800 0).length 30 0 E) (hG : Gd (lexF T n 800 0).length E) (hK : ∀ X1 S PL WA EN, TKf 0 X X1 → okσ (lexF T n 800 0).length (cRd (kdL T (lexF T n 800 0)) (nuL T (lexF T n 800 0)) E np 25 0 (0, 0, S) (0, PL, WA, EN)).2.1 → (cRd (kdL T (lexF T n 800 0)) (nuL T (lexF T n 800 0)) E np 25 0 (0, 0, S) (0, PL, WA, EN)).2.2.1 ≤ 24 → K [.int (ansF (lexF T n 800 0) n (cRd (kdL T (lexF T n 800 0)) (nuL T (lexF T n 800 0)) E np 25 0 (0, 0, S) (0, PL, WA, EN)))] (hX u L xs (pS (lS X1 (cRd (kdL T (lexF T n 800 0)) (nuL T (lexF T n 800 0)) E np 25 0 (0, 0, S) (0, PL, WA, EN)).2.2) (cRd (kdL T (lexF T n 800 0)) (nuL T (lexF T n 800 0)) E np 25 0 (0, 0, S) (0, PL, WA, EN)).2.1) Z)) : Call 21 [.ref 16, .ref 9, .int np] (hX u L xs X Z) K := by
  have hlen : (lexF T n 800 0).length ≤ 800 := by have := lex_len (T := T) (n := n) 800 0 (by omega); omega
  generalize hl : lexF T n 800 0 = l at hK hE hG hlen
  rw [en_21, w_21_0, w_21_1, w_21_2]
  refine c_cut hn hT h9 h10 (fun X1 ts tf => ⟨by simp, ?_⟩)
  rw [hl] at ts
  have hq : isRu 17 := Or.inr rfl
  have hc := CE_tk hlen ts
  rw [app0, w_21_5, w_21_6, w_21_9, en_45, w_45_0 hq, w_45_1, w_45_2 hq, w_45_5 hq, w_45_6, w_45_7 hq, w_45_10]
  refine ⟨by simp, ?_⟩
  rw [app0, w_21_12, w_21_13, w_21_14, clr_eq, w_21_17, w_21_18, w_21_19, w_21_20]
  refine l_read hc (fun ℓ => hE _ (CE_l hc)) hG 25 0 (0, 0, X1 21) (0, X1 18, X1 19, X1 20) rfl ⟨Nat.zero_le _, Nat.zero_le _⟩ (Nat.zero_le _) (fun l4 o1 o2 => ?_)
  have fin := hK X1 (X1 21) (X1 18) (X1 19) (X1 20) tf o1 o2
  generalize cRd (kdL T l) (nuL T l) E np 25 0 (0, 0, X1 21) (0, X1 18, X1 19, X1 20) = r at o1 o2 fin
  have o11 := o1.1
  have x4 : pS (lS X1 r.2.2) r.2.1 16 4 = ic l.length := by rw [pS_164, lS_n (by decide)]; exact hc.2.1
  have x24 : pS (lS X1 r.2.2) r.2.1 24 = X1 24 := by rw [pS_n (by decide) (by decide) (by decide), lS_n (by decide)]
  have x9 : pS (lS X1 r.2.2) r.2.1 9 = X 9 := by rw [pS_n (by decide) (by decide) (by decide), lS_n (by decide)]; exact tf.1 9 (by decide) (by decide) (by decide) (by decide)
  -- behind the spot
  have k81 : WP 21 0 81 [.ref 16, .ref 9, .int np, .int r.1, l4] [.int (spF l n r.2.1.1)] (hX u L xs (pS (lS X1 r.2.2) r.2.1) Z) K := by
    rw [w_21_81, w_21_83, w_21_84]
    unfold ansF at fin
    by_cases c : r.1 = 0
    · rw [if_pos c] at fin
      rw [if_neg (by simp [c]), w_21_87, w_21_88, w_21_98]
      exact fin
    · rw [if_neg c] at fin
      rw [if_pos c, w_21_91, w_21_92, w_21_94, w_21_96, w_21_97, w_21_98]
      exact fin
  rw [w_21_54, w_21_55, w_21_58, w_21_59, w_21_62, pS_165, x4]
  unfold spF at k81
  by_cases c : r.2.1.1 < l.length
  · rw [if_pos c] at k81
    have e1 : ¬ (ic l.length ≤ ic r.2.1.1) := by rw [ic_le (by omega) (by omega)]; omega
    have e8 : (r.2.1.1 < 800) = True := eq_true (by omega)
    have sp := (ts.2 _ c).2.2
    rw [Nat.zero_add] at sp
    rw [if_neg e1]
    simp (disch := first | assumption | omega) only [w_21_65, w_21_66, w_21_69, w_21_70, pS_165, w_21_73, inB_ic, ic_clamp, e8, true_and, x24, sp, w_21_74]
    exact k81
  · rw [if_neg c] at k81
    have e1 : ic l.length ≤ ic r.2.1.1 := by rw [ic_le (by omega) (by omega)]; omega
    rw [if_pos e1, w_21_77, w_21_78, x9, h9]
    exact k81
theorem c_copyR {Y : Nat → Nat → Int32} (hK : ∀ Y', (∀ a, a < 11 ∨ 15 < a → Y' a = Y a) → Y' 11 0 = Y 17 0 → Y' 11 5 = Y 17 5 → (∀ i, i < 24 → Y' 12 i = Y 18 i ∧ Y' 13 i = Y 19 i ∧ Y' 14 i = Y 20 i) → (∀ i, i < 800 → Y' 15 i = Y 21 i) → K [] (hX u L xs Y' Z)) : Call 52 [.ref 11, .ref 17] (hX u L xs Y Z) K := by
  rw [en_52, w_52_0, w_52_1, w_52_2, w_52_5, sv_d, w_52_8, w_52_9, w_52_10, w_52_13, sv_d, w_52_16, w_52_17, w_52_20, w_52_21, w_52_22, w_52_25, w_52_26, w_52_28, w_52_31, w_52_32, w_52_35, w_52_36, w_52_37, w_52_40, w_52_41, w_52_43, w_52_46, w_52_47, w_52_50, w_52_51, w_52_52, w_52_55, w_52_56, w_52_58, w_52_61, w_52_62, w_52_65, w_52_66, w_52_67, w_52_70, w_52_71, w_52_74, w_52_77]
  have e17 : sv Y 11 0 (Y 17 0) 17 5 = Y 17 5 := by rw [sv_a (by decide)]
  rw [e17]
  generalize hY1 : sv (sv Y 11 0 (Y 17 0)) 11 5 (Y 17 5) = Y1
  have n1 : ∀ a, a ≠ 11 → Y1 a = Y a := fun a ha => by rw [← hY1, sv_a ha, sv_a ha]
  refine hK _ (fun a ha => ?_) ?_ ?_ (fun i hi => ⟨?_, ?_, ?_⟩) (fun i hi => ?_)
  · simp only [va_up]
    rw [if_neg (by omega), if_neg (by omega), if_neg (by omega), if_neg (by omega)]
    exact n1 a (by omega)
  · simp only [va_up]
    rw [if_neg (by decide), if_neg (by decide), if_neg (by decide), if_neg (by decide), ← hY1, sv_i (by decide), sv_s]
  · simp only [va_up]
    rw [if_neg (by decide), if_neg (by decide), if_neg (by decide), if_neg (by decide), ← hY1, sv_s]
  · simp only [va_up]
    rw [if_neg (by decide), if_neg (by decide), if_neg (by decide), if_pos trivial, cpy_at hi, n1 18 (by decide)]
  · simp only [va_up]
    rw [if_neg (by decide), if_neg (by decide), if_pos trivial, cpy_at hi, if_neg (by decide), n1 19 (by decide)]
  · simp only [va_up]
    rw [if_neg (by decide), if_pos trivial, cpy_at hi, if_neg (by decide), if_neg (by decide), n1 20 (by decide)]
  · simp only [va_up]
    rw [if_pos trivial, cpy_at hi, if_neg (by decide), if_neg (by decide), if_neg (by decide), n1 21 (by decide)]
/-- what the class's cells hold behind a text -/
def txC (X Y : Nat → Nat → Int32) (f : Int32) (r : Int32 × PS × LnS) : Prop := (∀ a, a ≤ 8 ∨ 25 ≤ a → Y a = X a) ∧ Y 9 1 = 0 ∧ (f ≠ 0 → ∀ a, 11 ≤ a → a ≤ 15 → Y a = X a) ∧ (f = 0 → Y 11 0 = ic r.2.2.1 ∧ Y 11 5 = ic r.2.1.2.1 ∧ (∀ i, i < 24 → Y 12 i = r.2.2.2.1 i ∧ Y 13 i = r.2.2.2.2.1 i ∧ Y 14 i = r.2.2.2.2.2 i) ∧ ∀ i, i < 800 → Y 15 i = r.2.1.2.2 i)
theorem c_text (hn : n ≤ 800) (hT : ∀ i, i < n → cts (T i)) (h9 : X 9 1 = ic n) (h10 : X 10 = T) (hE : ∀ X', CE (kdL T (lexF T n 800 0)) (nuL T (lexF T n 800 0)) (lexF T n 800 0).length X' → Rd u L xs X' Z (lexF T n 800 0).length 30 0 E) (hG : Gd (lexF T n 800 0).length E) (hK : ∀ S PL WA EN Y, okσ (lexF T n 800 0).length (cRd (kdL T (lexF T n 800 0)) (nuL T (lexF T n 800 0)) E (X 1 0) 25 0 (0, 0, S) (0, PL, WA, EN)).2.1 → (cRd (kdL T (lexF T n 800 0)) (nuL T (lexF T n 800 0)) E (X 1 0) 25 0 (0, 0, S) (0, PL, WA, EN)).2.2.1 ≤ 24 → txC X Y (ansF (lexF T n 800 0) n (cRd (kdL T (lexF T n 800 0)) (nuL T (lexF T n 800 0)) E (X 1 0) 25 0 (0, 0, S) (0, PL, WA, EN))) (cRd (kdL T (lexF T n 800 0)) (nuL T (lexF T n 800 0)) E (X 1 0) 25 0 (0, 0, S) (0, PL, WA, EN)) → K [.int (ansF (lexF T n 800 0) n (cRd (kdL T (lexF T n 800 0)) (nuL T (lexF T n 800 0)) E (X 1 0) 25 0 (0, 0, S) (0, PL, WA, EN)))] (hX u L xs Y Z)) : Call 82 [.ref 0] (hX u L xs X Z) K := by
  rw [en_82, w_82_0, w_82_1, w_82_4, w_82_5, w_82_8, w_82_9, w_82_12, w_82_15]
  refine c_read hn hT h9 h10 hE hG (fun X1 S PL WA EN tf o1 o2 => ⟨by simp [thr], ?_⟩)
  have fin := hK S PL WA EN
  generalize cRd (kdL T (lexF T n 800 0)) (nuL T (lexF T n 800 0)) E (X 1 0) 25 0 (0, 0, S) (0, PL, WA, EN) = r at o1 o2 fin
  replace fin := fun Y => fin Y o1 o2
  generalize ansF (lexF T n 800 0) n r = f at fin
  rw [app1, w_82_18, w_82_19, w_82_20, w_82_23, w_82_24, sv_d, w_82_27, w_82_28]
  generalize hY : sv (pS (lS X1 r.2.2) r.2.1) 9 1 0 = Y
  have y9 : Y 9 1 = 0 := by rw [← hY]; exact sv_s
  have yn : ∀ a, a ≠ 9 → a ≠ 16 → a ≠ 17 → a ≠ 18 → a ≠ 19 → a ≠ 20 → a ≠ 21 → a ≠ 22 → a ≠ 23 → a ≠ 24 → Y a = X a := by
    intro a a1 a2 a3 a4 a5 a6 a7 a8 a9 a10
    rw [← hY, sv_a a1, pS_n a2 a3 a7, lS_n (by omega)]
    exact tf.1 a a2 a8 a9 a10
  by_cases c : f = 0
  · rw [if_neg (by simp [c]), w_82_31, w_82_32, w_82_35, w_82_36, w_82_39, w_82_42]
    refine c_copyR (fun Y' p1 p2 p3 p4 p5 => ⟨by simp, ?_⟩)
    rw [app0, w_82_45, w_82_46]
    have e17 : ∀ j, Y 17 j = pS (lS X1 r.2.2) r.2.1 17 j := fun j => by rw [← hY, sv_a (by decide)]
    have eq : ∀ a, a ≠ 9 → Y a = pS (lS X1 r.2.2) r.2.1 a := fun a ha => by rw [← hY, sv_a ha]
    refine fin Y' ⟨fun a ha => ?_, ?_, fun h => absurd c h, fun _ => ⟨?_, ?_, fun i hi => ?_, fun i hi => ?_⟩⟩
    · rw [p1 a (by omega)]
      exact yn a (by omega) (by omega) (by omega) (by omega) (by omega) (by omega) (by omega) (by omega) (by omega) (by omega)
    · rw [p1 9 (by omega)]; exact y9
    · rw [p2, e17]; exact pl_0
    · rw [p3, e17]; exact pS_175
    · obtain ⟨q1, q2, q3⟩ := p4 i hi
      rw [q1, q2, q3, eq 18 (by decide), eq 19 (by decide), eq 20 (by decide), pl_18, pl_19, pl_20]
      exact ⟨rfl, rfl, rfl⟩
    · rw [p5 i hi, eq 21 (by decide), pS_21]
  · rw [if_pos c, w_82_45, w_82_46]
    exact fin Y ⟨fun a ha => yn a (by omega) (by omega) (by omega) (by omega) (by omega) (by omega) (by omega) (by omega) (by omega) (by omega), y9, fun _ a h1 h2 => yn a (by omega) (by omega) (by omega) (by omega) (by omega) (by omega) (by omega) (by omega) (by omega) (by omega), fun h => absurd h c⟩
end
