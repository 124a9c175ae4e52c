/-! TEXT: both sides -/
section
variable {u : Nat × Nat} {L : Nat} {xs : Nat → Int32} {X X' : Nat → Nat → Int32} {Z Z' : Nat → Nat → Int64} {K : List Value → AH → Prop} {V W : Nat → Nat → Int32} {Kd Nu : Nat → Int32} {nt n nx : Nat} {E : PS → Int32 × PS} {T : Nat → Int32}
theorem sim_read (hm : ME Kd Nu nt nx X Z) (h0 : ∀ i, nt ≤ i → Kd i = 0 ∧ Nu i = 0) (hS : SimA u L xs X Z nt nx E) (hG : Gd nt E) (hW : Pw 0 E) : ∀ k i σ ℓ m g, i + k = 25 → LI2 nx i X σ ℓ m g → okσ nt σ → ℓ.1 ≤ 24 → ((cRd Kd Nu E (X 97 10) k i σ ℓ).1 = 0 → (∀ i' m' g', i' ≤ 24 → LI2 nx i' X (cRd Kd Nu E (X 97 10) k i σ ℓ).2.1 (cRd Kd Nu E (X 97 10) k i σ ℓ).2.2 m' g' → WP 119 0 60 [.ref 97] [] (hX u L xs (gS (mS nx X m') g') Z) K) → WP 119 0 34 [.ref 97] [] (hX u L xs (gS (mS nx X m) g) Z) K) ∧ ((cRd Kd Nu E (X 97 10) k i σ ℓ).1 ≠ 0 → (∀ m' g', g'.1.2.1 = (cRd Kd Nu E (X 97 10) k i σ ℓ).1 + 16 * X 100 (cRd Kd Nu E (X 97 10) k i σ ℓ).2.1.1 → FO nx X m' g' → WP 119 0 60 [.ref 97] [] (hX u L xs (gS (mS nx X m') g') Z) K) → (cRd Kd Nu E (X 97 10) k i σ ℓ).1 + 16 * X 100 (cRd Kd Nu E (X 97 10) k i σ ℓ).2.1.1 ≠ 0 → WP 119 0 34 [.ref 97] [] (hX u L xs (gS (mS nx X m) g) Z) K) := by
  intro k
  induction k with
  | zero =>
    intro i σ ℓ m g hi h ho hl
    have := h.1
    omega
  | succ k ih =>
    intro i σ ℓ m g hi h ho hl
    have k1 := h.1
    have k3 := h.2.2.1
    have k4 := h.2.2.2.1
    have h8 := hm.1
    have o1 := ho.1
    obtain ⟨_, _, _, _, _, _, t7⟩ := hm.2.2.2.1 _ o1
    have e8 : (σ.1 < 802) = True := eq_true (by omega)
    have x99 : gS (mS nx X m) g 99 = X 99 := by rw [gS_99, mS_n (by decide)]
    obtain ⟨q1, q2⟩ := ok_Ln (np := X 97 10) (i := i) h0 hG ho hl
    have pre : ∀ R : Prop, (R → if X 99 σ.1 = 0 then WP 119 0 60 [.ref 97] [] (hX u L xs (gS (mS nx X m) g) Z) K else WP 119 0 53 [.ref 97] [] (hX u L xs (gS (mS nx X m) g) Z) K) → R → WP 119 0 34 [.ref 97] [] (hX u L xs (gS (mS nx X m) g) Z) K := by
      intro R z r
      rw [w_119_34]
      simp (disch := first | assumption | omega) only [w_119_35, gS_8, k4, w_119_38, not_true_eq_false, if_false, w_119_41, w_119_42, w_119_45, w_119_46, gS_7, k3, w_119_49, inB_ic, ic_clamp, e8, true_and, x99, w_119_50]
      exact z r
    unfold cRd
    by_cases c : Kd σ.1 = 0
    · rw [if_pos c]
      refine ⟨fun _ hK => pre True (fun _ => ?_) trivial, fun h => absurd rfl h⟩
      rw [if_pos (t7.2 c)]
      exact hK i m g (by omega) h
    · rw [if_neg c]
      have n0 : ¬ X 99 σ.1 = 0 := fun z => c (t7.1 z)
      obtain ⟨s1, s2⟩ := sim_line (u := u) (L := L) (xs := xs) (K := fun rv h' => rv ≠ [thr] ∧ WP 119 0 57 [.ref 97] (rv ++ []) h' K) hm h0 hS hG hW h ho (by omega)
      have go : ∀ R : Prop, (R → Call 120 [.ref 97] (hX u L xs (gS (mS nx X m) g) Z) (fun rv h' => rv ≠ [thr] ∧ WP 119 0 57 [.ref 97] (rv ++ []) h' K)) → R → WP 119 0 34 [.ref 97] [] (hX u L xs (gS (mS nx X m) g) Z) K := by
        intro R z r
        refine pre R (fun r => ?_) r
        rw [if_neg n0, w_119_53, w_119_54]
        exact z r
      by_cases c2 : (cLn Kd Nu E (X 97 10) i σ ℓ).1 = 0
      · rw [if_pos c2]
        refine ⟨fun h1 hK => go True (fun _ => s1 c2 (fun m' g' L' => ⟨by simp, ?_⟩)) trivial, fun h1 hK hn => go True (fun _ => s1 c2 (fun m' g' L' => ⟨by simp, ?_⟩)) trivial⟩
        · rw [app0, w_119_57]
          exact (ih (i + 1) _ _ m' g' (by omega) L' q1 q2).1 h1 hK
        · rw [app0, w_119_57]
          exact (ih (i + 1) _ _ m' g' (by omega) L' q1 q2).2 h1 hK hn
      · rw [if_neg c2]
        refine ⟨fun h1 => absurd h1 c2, fun _ hK hn => go True (fun _ => s2 c2 (fun m' g' e f => ⟨by simp, ?_⟩)) trivial⟩
        rw [app0, w_119_57, w_119_34, w_119_35, w_119_38, gS_8, if_pos (by rw [e]; exact hn)]
        exact hK m' g' e f
theorem ic_any (v : Int32) : ∃ k, v = ic k := by
  refine ⟨v.toBitVec.toNat, ?_⟩
  unfold ic
  apply Int32.toBitVec_inj.1
  apply BitVec.eq_of_toNat_eq
  simp
/-- what the model's cells hold behind a text -/
def txM (nx : Nat) (Y W : Nat → Nat → Int32) (m : LnS) (g : MG) : Prop := (∀ a, a ≠ 97 → a ≠ 99 → a ≠ 100 → (a < 120 ∨ 128 < a) → W a = Y a) ∧ (∀ j, j ≠ 0 → j ≠ 2 → j ≠ 3 → j ≠ 7 → j ≠ 8 → j ≠ 38 → j ≠ 39 → j ≠ 40 → j ≠ 41 → W 97 j = Y 97 j) ∧ W 97 2 = 0 ∧ W 120 nx = ic m.1 ∧ (∀ j, j ≠ nx → W 120 j = Y 120 j) ∧ W 121 = m.2.1 ∧ W 122 = m.2.2.1 ∧ W 123 = m.2.2.2 ∧ W 124 = g.2.1 ∧ W 125 = g.2.2.1
theorem m_text {Y : Nat → Nat → Int32} {h : Nat} {np : Int32} (hnp : Y 97 10 = np) (hn : n ≤ 800) (h2 : Y 97 2 = ic n) (h98 : ∀ i, i < n → Y 98 i = T i) (hh : h < 2) (h38 : Y 97 38 = ic h) (hz : ∀ w, w < 11 → Z 102 w = wdV w) (hS : ∀ Y' Z', ME (kdL T (lexF T n 800 0)) (nuL T (lexF T n 800 0)) (lexF T n 800 0).length (1 - h) Y' Z' → SimA u L xs Y' Z' (lexF T n 800 0).length (1 - h) E) (hG : Gd (lexF T n 800 0).length E) (hW : Pw 0 E) (hF : Fr5 E) {S PL WA EN : Nat → Int32} (ho : okσ (lexF T n 800 0).length (cRd (kdL T (lexF T n 800 0)) (nuL T (lexF T n 800 0)) E np 25 0 (0, 0, S) (0, PL, WA, EN)).2.1) (hK : ∀ Z' W m g, Z' 102 = Z 102 → txM (1 - h) Y W m g → (ansF (lexF T n 800 0) n (cRd (kdL T (lexF T n 800 0)) (nuL T (lexF T n 800 0)) E np 25 0 (0, 0, S) (0, PL, WA, EN)) ≠ 0 → W 97 38 = ic h ∧ FO (1 - h) Y m g) → (ansF (lexF T n 800 0) n (cRd (kdL T (lexF T n 800 0)) (nuL T (lexF T n 800 0)) E np 25 0 (0, 0, S) (0, PL, WA, EN)) = 0 → W 97 38 = ic (1 - h) ∧ ∃ i', i' ≤ 24 ∧ ∃ Y', LI2 (1 - h) i' Y' (cRd (kdL T (lexF T n 800 0)) (nuL T (lexF T n 800 0)) E np 25 0 (0, 0, S) (0, PL, WA, EN)).2.1 (cRd (kdL T (lexF T n 800 0)) (nuL T (lexF T n 800 0)) E np 25 0 (0, 0, S) (0, PL, WA, EN)).2.2 m g) → K [.int (ansF (lexF T n 800 0) n (cRd (kdL T (lexF T n 800 0)) (nuL T (lexF T n 800 0)) E np 25 0 (0, 0, S) (0, PL, WA, EN)))] (hX u L xs W Z')) : Call 119 [.ref 97] (hX u L xs Y Z) K := by
  rw [en_119, w_119_0, w_119_1, w_119_2, sv_d, w_119_5, w_119_6]
  have h0' : ∀ i, (lexF T n 800 0).length ≤ i → kdL T (lexF T n 800 0) i = 0 ∧ nuL T (lexF T n 800 0) i = 0 := fun i hi => by
    unfold kdL nuL
    rw [if_neg (by omega), if_neg (by omega)]
    exact ⟨rfl, rfl⟩
  refine m_cutAll (T := T) hn (by rw [sv_i (by decide)]; exact h2) (fun i hi => by rw [sv_a (by decide)]; exact h98 i hi) (fun Y2 Z2 mt => ⟨by simp, ?_⟩)
  obtain ⟨ms, b1, b2, b3, b4, b5, b6, b7, b8⟩ := mt
  have hMk := fun (X5 : Nat → Nat → Int32) (e39 : X5 97 39 = ic (1 - h)) (e99 : X5 99 = Y2 99) (e100 : X5 100 = Y2 100) => ME_mk (X := X5) (X' := Y2) (Z := Z2) (nx := 1 - h) rfl hn (by omega) e39 (fun i _ => by rw [e99]) (fun i _ => by rw [e100]) ms b1 b2 (fun w hw => by rw [b8 102 (by decide)]; exact hz w hw)
  have y38 : Y2 97 38 = ic h := by rw [b6 38 (by decide) (by decide) (by decide) (by decide), sv_i (by decide)]; exact h38
  have e1h : (1 : Int32) - ic h = ic (1 - h) := by rw [show (1 : Int32) = ic 1 from rfl, ic_subN (by omega)]
  have en2 : (1 - h < 2) = True := eq_true (by omega)
  have y39 : sv Y2 97 39 (ic (1 - h)) 97 39 = ic (1 - h) := sv_s
  simp (disch := first | assumption | omega) only [app0, w_119_9, w_119_10, w_119_11, w_119_12, y38, w_119_15, e1h, w_119_16, sv_d, w_119_19, w_119_20, w_119_23, w_119_24, y39, w_119_27, w_119_28, inB_ic, ic_clamp, en2, true_and, w_119_29, w_119_30, w_119_31]
  generalize hX5 : sv (sv (sv Y2 97 39 (ic (1 - h))) 120 (1 - h) 0) 97 40 0 = X5
  have x97 : ∀ j, j ≠ 39 → j ≠ 40 → X5 97 j = Y2 97 j := fun j j1 j2 => by rw [← hX5, sv_i j2, sv_a (by decide), sv_i j1]
  have x39 : X5 97 39 = ic (1 - h) := by rw [← hX5, sv_i (by decide), sv_a (by decide), sv_s]
  have x40 : X5 97 40 = 0 := by rw [← hX5, sv_s]
  have x120 : X5 120 (1 - h) = 0 := by rw [← hX5, sv_a (by decide), sv_s]
  have x120' : ∀ j, j ≠ 1 - h → X5 120 j = Y2 120 j := fun j hj => by rw [← hX5, sv_a (by decide), sv_i hj, sv_a (by decide)]
  have xn : ∀ a, a ≠ 97 → a ≠ 120 → X5 a = Y2 a := fun a a1 a2 => by rw [← hX5, sv_a a1, sv_a a2, sv_a a1]
  obtain ⟨hm, sp⟩ := hMk X5 x39 (xn 99 (by decide) (by decide)) (xn 100 (by decide) (by decide))
  obtain ⟨dp, edp⟩ := ic_any (X5 97 41)
  have x7 : X5 97 7 = 0 := by rw [x97 7 (by decide) (by decide)]; exact b3
  have x8 : X5 97 8 = 0 := by rw [x97 8 (by decide) (by decide)]; exact b4
  have x10 : X5 97 10 = np := by rw [x97 10 (by decide) (by decide), b6 10 (by decide) (by decide) (by decide) (by decide), sv_i (by decide)]; exact hnp
  -- the cells as a state
  have eS : X5 = gS (mS (1 - h) X5 (0, X5 121, X5 122, X5 123)) ((0, 0, 0, dp), X5 124, X5 125, X5 126, X5 127, X5 128) := by
    funext a j
    by_cases a97 : a = 97
    · subst a97
      by_cases j7 : j = 7
      · subst j7; rw [gS_7]; exact x7
      · by_cases j8 : j = 8
        · subst j8; rw [gS_8]; exact x8
        · by_cases j40 : j = 40
          · subst j40; rw [gS_40]; exact x40
          · by_cases j41 : j = 41
            · subst j41; rw [gS_41]; exact edp
            · rw [gS_97 j7 j8 j40 j41, mS_n (by decide)]
    · by_cases a124 : a < 124 ∨ 128 < a
      · rw [gS_n a97 a124]
        by_cases a120 : a < 120 ∨ 123 < a
        · rw [mS_n a120]
        · rcases (show a = 120 ∨ a = 121 ∨ a = 122 ∨ a = 123 by omega) with e | e | e | e
          · subst e
            by_cases jn : j = 1 - h
            · subst jn
              rw [x120]
              simp [mS, upd, ic]
            · simp [mS, upd, jn]
          · subst e; simp [mS]
          · subst e; simp [mS]
          · subst e; simp [mS]
      · rcases (show a = 124 ∨ a = 125 ∨ a = 126 ∨ a = 127 ∨ a = 128 by omega) with e | e | e | e | e
        · subst e; rw [gS_124]
        · subst e; rw [gS_125]
        · subst e; rw [gS_126]
        · subst e; rw [gS_127]
        · subst e; rw [gS_128]
  have hL : LI2 (1 - h) 0 X5 (0, 0, S) (0, PL, WA, EN) (0, X5 121, X5 122, X5 123) ((0, 0, 0, dp), X5 124, X5 125, X5 126, X5 127, X5 128) := ⟨rfl, rfl, rfl, rfl, rfl, Nat.le_refl _, rfl, fun l hl => absurd hl (Nat.not_lt_zero _), fun i _ => ⟨rfl, rfl, rfl⟩, fun i _ => ⟨rfl, rfl⟩⟩
  rw [show hX u L xs X5 Z2 = hX u L xs (gS (mS (1 - h) X5 (0, X5 121, X5 122, X5 123)) ((0, 0, 0, dp), X5 124, X5 125, X5 126, X5 127, X5 128)) Z2 by rw [← eS]]
  obtain ⟨s1, s2⟩ := sim_read (u := u) (L := L) (xs := xs) (K := K) hm h0' (hS X5 Z2 hm) hG hW 25 0 (0, 0, S) (0, PL, WA, EN) _ _ rfl hL ⟨Nat.zero_le _, Nat.zero_le _⟩ (Nat.zero_le _)
  rw [x10] at s1 s2
  have r5 := f5_Rd (Kd := kdL T (lexF T n 800 0)) (Nu := nuL T (lexF T n 800 0)) (np := np) hF 25 0 (0, 0, S) (0, PL, WA, EN)
  generalize hr : cRd (kdL T (lexF T n 800 0)) (nuL T (lexF T n 800 0)) E np 25 0 (0, 0, S) (0, PL, WA, EN) = r at s1 s2 hK ho r5
  have spp := sp _ ho.1
  have z102 : Z2 102 = Z 102 := b8 102 (by decide)
  have txm : ∀ (W : Nat → Nat → Int32) (m : LnS) (g : MG), (∀ a, a ≠ 97 → W a = gS (mS (1 - h) X5 m) g a) → (∀ j, j ≠ 38 → W 97 j = gS (mS (1 - h) X5 m) g 97 j) → txM (1 - h) Y W m g := by
    intro W m g w1 w2
    refine ⟨fun a a1 a2 a3 a4 => ?_, fun j j0 j2 j3 j7 j8 j38 j39 j40 j41 => ?_, ?_, ?_, fun j hj => ?_, ?_, ?_, ?_, ?_, ?_⟩
    · rw [w1 a a1, gS_n a1 (by omega), mS_n (by omega), xn a a1 (by omega), b7 a a1 a2 a3, sv_a a1]
    · rw [w2 j j38, gS_97 j7 j8 j40 j41, mS_n (by decide), x97 j j39 j40, b6 j j2 j3 j7 j8, sv_i j0]
    · rw [w2 2 (by decide), gS_97 (by decide) (by decide) (by decide) (by decide), mS_n (by decide), x97 2 (by decide) (by decide)]; exact b5
    · rw [w1 120 (by decide)]; exact gm_120
    · rw [w1 120 (by decide), gS_n (by decide) (by decide)]
      simp only [mS, upd, if_true]
      rw [if_neg hj, x120' j hj, b7 120 (by decide) (by decide) (by decide), sv_a (by decide)]
    · rw [w1 121 (by decide)]; exact gm_121
    · rw [w1 122 (by decide)]; exact gm_122
    · rw [w1 123 (by decide)]; exact gm_123
    · rw [w1 124 (by decide)]; exact gS_124
    · rw [w1 125 (by decide)]; exact gS_125
  have fo : ∀ (m : LnS) (g : MG), FO (1 - h) X5 m g → FO (1 - h) Y m g := by
    intro m g f
    have e : ∀ a, 121 ≤ a → a ≤ 125 → X5 a = Y a := fun a l1 l2 => by rw [xn a (by omega) (by omega), b7 a (by omega) (by omega) (by omega), sv_a (by omega)]
    unfold FO at f ⊢
    rw [e 121 (by omega) (by omega), e 122 (by omega) (by omega), e 123 (by omega) (by omega), e 124 (by omega) (by omega), e 125 (by omega) (by omega)] at f
    exact f
  by_cases c : r.1 = 0
  · have ea : ansF (lexF T n 800 0) n r = 0 := by unfold ansF; rw [if_pos c]
    rw [ea] at hK
    refine s1 c (fun i' m' g' hi' hL' => ?_)
    have f0 : g'.1.2.1 = 0 := hL'.2.2.2.1
    have g39 : gS (mS (1 - h) X5 m') g' 97 39 = ic (1 - h) := by rw [gS_39, mS_n (by decide)]; exact x39
    rw [w_119_60, w_119_61, w_119_64, gS_8, if_neg (by simp [f0]), w_119_67, w_119_68, w_119_69, g39, w_119_72, sv_d, w_119_75, w_119_76, w_119_79, sv_i (by decide), gS_8, f0]
    exact hK Z2 _ m' g' z102 (txm _ m' g' (fun a ha => sv_a ha) (fun j hj => sv_i hj)) (fun z => absurd rfl z) (fun _ => ⟨sv_s, i', hi', X5, hL'⟩)
  · have ea : ansF (lexF T n 800 0) n r = r.1 + 16 * X5 100 r.2.1.1 := by unfold ansF; rw [if_neg c, spp]
    have hne : r.1 + 16 * X5 100 r.2.1.1 ≠ 0 := by
      obtain ⟨f, f1, f2, f3⟩ := R5_N r5 c
      obtain ⟨s, hs, es⟩ := hm.2.2.2.2.2 _ ho.1
      rw [f3, es]
      exact (pos16 f1 f2 hs).2
    rw [ea] at hK
    refine s2 c (fun m' g' e f => ?_) hne
    have g38 : gS (mS (1 - h) X5 m') g' 97 38 = ic h := by rw [gS_97 (by decide) (by decide) (by decide) (by decide), mS_n (by decide), x97 38 (by decide) (by decide)]; exact y38
    rw [w_119_60, w_119_61, w_119_64, gS_8, if_pos (by rw [e]; exact hne), w_119_75, w_119_76, w_119_79, gS_8, e]
    exact hK Z2 _ m' g' z102 (txm _ m' g' (fun a _ => rfl) (fun j _ => rfl)) (fun _ => ⟨g38, fo m' g' f⟩) (fun z => absurd z hne)
end
