/-! TEXT: a whole line of the model, and all its lines -/
section
variable {u : Nat × Nat} {L : Nat} {xs : Nat → Int32} {X X' : Nat → Nat → Int32} {Z Z' : Nat → Nat → Int64} {K : List Value → AH → Prop} {V W : Nat → Nat → Int32} {Kd Nu : Nat → Int32} {nt n nx : Nat} {E : PS → Int32 × PS} {T : Nat → Int32}
theorem bnd_p {f : Int32} {σ : PS} {F : PS → Int32 × PS} (h : f ≠ 0) : bnd (f, σ) F = (f, σ) := bnd_f h
/-- the model reads a test as E says, over whatever lines -/
def SimA (u : Nat × Nat) (L : Nat) (xs : Nat → Int32) (X : Nat → Nat → Int32) (Z : Nat → Nat → Int64) (nt nx : Nat) (E : PS → Int32 × PS) : Prop := ∀ (m : LnS) (b c0 : Nat) (O0 V0 S0 : Nat → Int32) (l1 : Value) (Q : List Value → AH → Prop), c0 ≤ b + 24 → SimE u L xs (mS nx X m) Z nt nx b c0 O0 V0 S0 l1 Q 0 E
theorem sim_line {i : Nat} {σ : PS} {ℓ m : LnS} {g : MG} (hm : ME Kd Nu nt nx X Z) (h0 : ∀ i, nt ≤ i → Kd i = 0 ∧ Nu i = 0) (hS : SimA u L xs X Z nt nx E) (hG : Gd nt E) (hW : Pw 0 E) (h : LI2 nx i X σ ℓ m g) (ho : okσ nt σ) (hi : i ≤ 24) : ((cLn Kd Nu E (X 97 10) i σ ℓ).1 = 0 → (∀ m' g', LI2 nx (i + 1) X (cLn Kd Nu E (X 97 10) i σ ℓ).2.1 (cLn Kd Nu E (X 97 10) i σ ℓ).2.2 m' g' → K [] (hX u L xs (gS (mS nx X m') g') Z)) → Call 120 [.ref 97] (hX u L xs (gS (mS nx X m) g) Z) K) ∧ ((cLn Kd Nu E (X 97 10) i σ ℓ).1 ≠ 0 → (∀ m' g', g'.1.2.1 = (cLn Kd Nu E (X 97 10) i σ ℓ).1 + 16 * X 100 (cLn Kd Nu E (X 97 10) i σ ℓ).2.1.1 → FO nx X m' g' → K [] (hX u L xs (gS (mS nx X m') g') Z)) → Call 120 [.ref 97] (hX u L xs (gS (mS nx X m) g) Z) K) := by
  have h' := h
  obtain ⟨k1, k2, k3, k4, k5, k6, k7, k8, k9⟩ := h
  have hm' := ME_m (m := m) hm
  have hnx := hm.2.1
  have h8 := hm.1
  have o1 := ho.1
  have o2 := ho.2
  have hp : g.1.1 ≤ nt := by rw [k3]; exact o1
  have x100 : ∀ M, (mS nx X M) 100 = X 100 := fun M => mS_n (by decide)
  have x39 : ∀ (M : LnS) (G : MG), gS (mS nx X M) G 97 39 = ic nx := fun M G => by rw [gS_39, mS_n (by decide)]; exact hm.2.2.1
  have en2 : (nx < 2) = True := eq_true hnx
  rw [en_120, w_120_0, w_120_1, show (0 : Int32) = ic 0 from rfl, w_120_2, m_word0 hm' (by omega) k4 hp, k3, show ic (129 + 0) = 129 from rfl]
  -- a fault before the line is begun
  have out : ∀ f : Nat, 0 < f → f ≤ 5 → (∀ m' g', g'.1.2.1 = ic f + 16 * X 100 σ.1 → FO nx X m' g' → K [] (hX u L xs (gS (mS nx X m') g') Z)) → WP 120 0 35 [.ref 97, poi, poi] [] (hX u L xs (gS (mS nx X m) (gFa (ic f + 16 * X 100 σ.1) g)) Z) K := by
    intro f f1 f2 hK
    obtain ⟨s, hs, es⟩ := hm.2.2.2.2.2 _ o1
    have w1 := (pos16 (f := f) (s := s) f1 f2 hs).1
    rw [← es] at w1
    rw [w_120_35, w_120_36, w_120_39, gS_8, if_neg (show ¬ (gFa (ic f + 16 * X 100 σ.1) g).1.2.1 ≤ 0 from w1), w_120_42]
    exact hK _ _ rfl k9
  by_cases c129 : Kd σ.1 = 129
  · by_cases c24 : i = 24
    · have er : cLn Kd Nu E (X 97 10) i σ ℓ = (5, σ, ℓ) := by unfold cLn; rw [if_pos ⟨c129, by omega⟩]
      rw [er]
      refine ⟨fun h => absurd (show (5 : Int32) = 0 from h) (by decide), fun _ hK => ⟨by simp [thr], ?_⟩⟩
      rw [app1, w_120_5, if_pos (by simp [c129, b2i])]
      simp (disch := first | assumption | omega) only [w_120_16, w_120_17, w_120_20, w_120_21, x39, w_120_24, inB_ic, ic_clamp, en2, true_and, gm_120, k2, c24, w_120_25, w_120_27, show (ic 24 = (24 : Int32)) = True by decide, not_true_eq_false, if_false, w_120_30, w_120_31, w_120_32]
      rw [m_wrong0 hm' k4 hp, k3, x100]
      refine ⟨by simp, ?_⟩
      rw [app0]
      exact out 5 (by omega) (by omega) hK
    · have i24 : i < 24 := by omega
      have er : cLn Kd Nu E (X 97 10) i σ ℓ = ((q7F Kd Nu E (X 97 10) σ).1, (q7F Kd Nu E (X 97 10) σ).2, alF (Nu (paF Kd 129 σ).2.1) (Nu (q3F Kd Nu (X 97 10) σ).2.1) (q7F Kd Nu E (X 97 10) σ).2.2.1 ℓ) := by unfold cLn; rw [if_neg (fun z => absurd z.2 (by omega))]
      rw [er]
      dsimp only
      have e24 : (ic i = 24) = False := by rw [show (24 : Int32) = ic 24 from rfl, ic_eq (by omega) (by omega)]; exact eq_false (by omega)
      have e48 : (24 * nx + i < 48) = True := eq_true (by omega)
      have i24nx : (24 : Int32) * ic nx + ic i = ic (24 * nx + i) := by
        rw [show (24 : Int32) = ic 24 from rfl]
        unfold ic
        rw [← Int32.ofNat_mul, ← Int32.ofNat_add]
      have hn1 : okσ nt (nxF σ) := ok_nx h0 ho (by rw [c129]; decide)
      have p1 : (nxF σ).1 = σ.1 + 1 := rfl
      have r1 : paF Kd 129 σ = (0, nxF σ) := pa_y c129
      have e10 : ∀ (M : LnS) (G : MG), gS (mS nx X M) G 97 10 = X 97 10 := fun M G => by rw [gS_97 (by decide) (by decide) (by decide) (by decide), mS_n (by decide)]
      -- to the first number
      have toN : ∀ (R : Prop), (R → Call 118 [.ref 97, .int 0, .int (X 97 10 - 1)] (hX u L xs (gS (mS nx X m) (gAt (σ.1 + 1) g)) Z) (fun rv h' => rv ≠ [thr] ∧ WP 120 0 87 [.ref 97, .int (ic (24 * nx + i)), poi] (rv ++ [.int (ic (24 * nx + i)), .ref 121]) h' K)) → R → [Value.int (b2i (decide (Kd σ.1 = 129)))] ≠ [thr] ∧ WP 120 0 5 [.ref 97, poi, poi] ([Value.int (b2i (decide (Kd σ.1 = 129)))] ++ []) (hX u L xs (gS (mS nx X m) g) Z) K := by
        intro R z r
        refine ⟨by simp [thr], ?_⟩
        rw [app1, w_120_5, if_pos (by simp [c129, b2i])]
        simp (disch := first | assumption | omega) only [w_120_16, w_120_17, w_120_20, w_120_21, x39, w_120_24, inB_ic, ic_clamp, en2, true_and, gm_120, k2, w_120_25, w_120_27, e24, not_false_eq_true, if_true, w_120_35, w_120_36, gS_8, k4, w_120_39, show ((0 : Int32) ≤ 0) = True by decide, w_120_43, w_120_44, w_120_45, gS_7, k3, w_120_48, w_120_49, ic_add1, w_120_50, gs_at, w_120_53, w_120_55, w_120_56, w_120_59, w_120_60, w_120_61, w_120_64, w_120_65, w_120_68, w_120_69, i24nx, w_120_70, w_120_71, w_120_72, w_120_75, w_120_76, w_120_77, w_120_78, w_120_79, e10, w_120_82, w_120_83, w_120_84]
        exact z r
      have st87 : ∀ (v : Int32) (G : MG), WP 120 0 88 [.ref 97, .int (ic (24 * nx + i)), poi] [] (hX u L xs (gS (mS nx X (m.1, upd m.2.1 (24 * nx + i) v, m.2.2)) G) Z) K → [Value.int v] ≠ [thr] ∧ WP 120 0 87 [.ref 97, .int (ic (24 * nx + i)), poi] ([Value.int v] ++ [.int (ic (24 * nx + i)), .ref 121]) (hX u L xs (gS (mS nx X m) G) Z) K := by
        intro v G z
        refine ⟨by simp [thr], ?_⟩
        simp (disch := first | assumption | omega) only [List.cons_append, List.nil_append, w_120_87, inB_ic, ic_clamp, e48, true_and, gm_121, gm_u121]
        exact z
      have tn := fun K' => m_takeN0 (u := u) (L := L) (xs := xs) (K := K') (g := gAt (σ.1 + 1) g) (lo := 0) (hi := X 97 10 - 1) hm' k4 hn1.1
      simp only [x100, show (gAt (σ.1 + 1) g).1.1 = σ.1 + 1 from rfl] at tn
      -- faults, from where the model stands at p
      have flt : ∀ (f p q : Nat) (M : LnS), 0 < f → f ≤ 5 → p ≤ nt → FO nx X M g → FF nx X (ic f + 16 * X 100 p) M (gAt q (gFa (ic f + 16 * X 100 p) g)) := by
        intro f p q M f1 f2 hp' fo
        obtain ⟨s, hs, es⟩ := hm.2.2.2.2.2 _ hp'
        have w1 := pos16 (f := f) (s := s) f1 f2 hs
        rw [← es] at w1
        refine ⟨rfl, w1.1, w1.2, ?_, fo⟩
        show g.1.2.2.1 < 860
        omega
      have fo1 : ∀ v, FO nx X (m.1, upd m.2.1 (24 * nx + i) v, m.2.2) g := fun v => FO_p i24 k9
      by_cases cn : Kd (σ.1 + 1) = 128 ∧ (¬ Nu (σ.1 + 1) < 0 ∧ ¬ X 97 10 - 1 < Nu (σ.1 + 1))
      · have r2 : q2F Kd Nu (X 97 10) σ = (0, nxF (nxF σ)) := by
          unfold q2F
          rw [r1, bnd_s rfl]
          unfold pnF
          rw [p1, if_pos cn.1, if_pos cn.2]
        have hn2 : okσ nt (nxF (nxF σ)) := ok_nx h0 hn1 (by rw [p1, cn.1]; decide)
        have hMe1 := ME_m (m := (m.1, upd m.2.1 (24 * nx + i) (Nu (σ.1 + 1)), m.2.2)) hm
        have a2 : (gAt (σ.1 + 1 + 1) (gAt (σ.1 + 1) g)).1.1 = σ.1 + 1 + 1 := rfl
        by_cases cw : Kd (σ.1 + 1 + 1) = 130
        · have r3 : q3F Kd Nu (X 97 10) σ = (0, nxF (nxF (nxF σ))) := by unfold q3F; rw [r2, bnd_s rfl]; exact pa_y cw
          have hn3 : okσ nt (nxF (nxF (nxF σ))) := ok_nx h0 hn2 (by show Kd (σ.1 + 1 + 1) ≠ 0; rw [cw]; decide)
          have tn2 := fun K' => m_takeN0 (u := u) (L := L) (xs := xs) (K := K') (g := gAt (σ.1 + 1 + 1 + 1) (gAt (σ.1 + 1 + 1) (gAt (σ.1 + 1) g))) (lo := 1) (hi := 60) hMe1 k4 hn3.1
          simp only [x100, show (gAt (σ.1 + 1 + 1 + 1) (gAt (σ.1 + 1 + 1) (gAt (σ.1 + 1) g))).1.1 = σ.1 + 1 + 1 + 1 from rfl] at tn2
          have st105 : ∀ (v : Int32) (G : MG), WP 120 0 106 [.ref 97, .int (ic (24 * nx + i)), poi] [] (hX u L xs (gS (mS nx X (m.1, upd m.2.1 (24 * nx + i) (Nu (σ.1 + 1)), upd m.2.2.1 (24 * nx + i) v, m.2.2.2)) G) Z) K → [Value.int v] ≠ [thr] ∧ WP 120 0 105 [.ref 97, .int (ic (24 * nx + i)), poi] ([Value.int v] ++ [.int (ic (24 * nx + i)), .ref 122]) (hX u L xs (gS (mS nx X (m.1, upd m.2.1 (24 * nx + i) (Nu (σ.1 + 1)), m.2.2)) G) Z) K := by
            intro v G z
            refine ⟨by simp [thr], ?_⟩
            simp (disch := first | assumption | omega) only [List.cons_append, List.nil_append, w_120_105, inB_ic, ic_clamp, e48, true_and, gm_122, gm_u122]
            exact z
          -- to the second number
          have toW : ∀ (R : Prop), (R → Call 118 [.ref 97, .int 1, .int 60] (hX u L xs (gS (mS nx X (m.1, upd m.2.1 (24 * nx + i) (Nu (σ.1 + 1)), m.2.2)) (gAt (σ.1 + 1 + 1 + 1) (gAt (σ.1 + 1 + 1) (gAt (σ.1 + 1) g)))) Z) (fun rv h' => rv ≠ [thr] ∧ WP 120 0 105 [.ref 97, .int (ic (24 * nx + i)), poi] (rv ++ [.int (ic (24 * nx + i)), .ref 122]) h' K)) → R → [Value.int (b2i (decide (Kd σ.1 = 129)))] ≠ [thr] ∧ WP 120 0 5 [.ref 97, poi, poi] ([Value.int (b2i (decide (Kd σ.1 = 129)))] ++ []) (hX u L xs (gS (mS nx X m) g) Z) K := by
            intro R z r
            refine toN R (fun r => ?_) r
            rw [tn, if_pos cn, if_pos cn.1, if_pos cn.2]
            refine st87 _ _ ?_
            rw [w_120_88, w_120_89, show (1 : Int32) = ic 1 from rfl, w_120_90, m_takeWord0 (g := gAt (σ.1 + 1 + 1) (gAt (σ.1 + 1) g)) hMe1 (by omega) k4 (by rw [a2]; exact hn2.1), a2, if_pos (show Kd (σ.1 + 1 + 1) = ic (129 + 1) from cw)]
            refine ⟨by simp, ?_⟩
            rw [app0, w_120_93, w_120_94, w_120_97, w_120_98, w_120_99, w_120_100, w_120_102]
            exact z r
          by_cases cn2 : Kd (σ.1 + 1 + 1 + 1) = 128 ∧ (¬ Nu (σ.1 + 1 + 1 + 1) < 1 ∧ ¬ 60 < Nu (σ.1 + 1 + 1 + 1))
          · have r4 : bnd (q3F Kd Nu (X 97 10) σ) (pnF Kd Nu 1 60) = (0, nxF (nxF (nxF (nxF σ)))) := by
              rw [r3, bnd_s rfl]
              unfold pnF
              rw [show (((0 : Int32), nxF (nxF (nxF σ))) : Int32 × PS).2.1 = σ.1 + 1 + 1 + 1 from rfl, if_pos cn2.1, if_pos cn2.2]
            have hn4 : okσ nt (nxF (nxF (nxF (nxF σ)))) := ok_nx h0 hn3 (by show Kd (σ.1 + 1 + 1 + 1) ≠ 0; rw [cn2.1]; decide)
            have hMe2 := ME_m (m := (m.1, upd m.2.1 (24 * nx + i) (Nu (σ.1 + 1)), upd m.2.2.1 (24 * nx + i) (Nu (σ.1 + 1 + 1 + 1)), m.2.2.2)) hm
            have a4 : (gAt (σ.1 + 1 + 1 + 1 + 1) (gAt (σ.1 + 1 + 1 + 1) (gAt (σ.1 + 1 + 1) (gAt (σ.1 + 1) g)))).1.1 = σ.1 + 1 + 1 + 1 + 1 := rfl
            have toE : ∀ (R : Prop), (R → WP 120 0 111 [.ref 97, .int (ic (24 * nx + i)), poi] [] (hX u L xs (gS (mS nx X (m.1, upd m.2.1 (24 * nx + i) (Nu (σ.1 + 1)), upd m.2.2.1 (24 * nx + i) (Nu (σ.1 + 1 + 1 + 1)), m.2.2.2)) (if Kd (σ.1 + 1 + 1 + 1 + 1) = ic (129 + 2) then gAt (σ.1 + 1 + 1 + 1 + 1 + 1) (gAt (σ.1 + 1 + 1 + 1 + 1) (gAt (σ.1 + 1 + 1 + 1) (gAt (σ.1 + 1 + 1) (gAt (σ.1 + 1) g)))) else gFa (1 + 16 * X 100 (σ.1 + 1 + 1 + 1 + 1)) (gAt (σ.1 + 1 + 1 + 1 + 1) (gAt (σ.1 + 1 + 1 + 1) (gAt (σ.1 + 1 + 1) (gAt (σ.1 + 1) g)))))) Z) K) → R → [Value.int (b2i (decide (Kd σ.1 = 129)))] ≠ [thr] ∧ WP 120 0 5 [.ref 97, poi, poi] ([Value.int (b2i (decide (Kd σ.1 = 129)))] ++ []) (hX u L xs (gS (mS nx X m) g) Z) K := by
              intro R z r
              refine toW R (fun r => ?_) r
              rw [tn2, if_pos cn2, if_pos cn2.1, if_pos cn2.2]
              refine st105 _ _ ?_
              rw [w_120_106, w_120_107, show (2 : Int32) = ic 2 from rfl, w_120_108, m_takeWord0 (g := gAt (σ.1 + 1 + 1 + 1 + 1) (gAt (σ.1 + 1 + 1 + 1) (gAt (σ.1 + 1 + 1) (gAt (σ.1 + 1) g)))) hMe2 (by omega) k4 (by rw [a4]; exact hn4.1), a4, x100]
              refine ⟨by simp, ?_⟩
              rw [app0]
              exact z r
            by_cases cx : Kd (σ.1 + 1 + 1 + 1 + 1) = 131
            · have r5 : q5F Kd Nu (X 97 10) σ = (0, nxF (nxF (nxF (nxF (nxF σ))))) := by unfold q5F; rw [r4, bnd_s rfl]; exact pa_y cx
              have hn5 : okσ nt (nxF (nxF (nxF (nxF (nxF σ))))) := ok_nx h0 hn4 (by show Kd (σ.1 + 1 + 1 + 1 + 1) ≠ 0; rw [cx]; decide)
              have r6 : bnd (q5F Kd Nu (X 97 10) σ) E = E (nxF (nxF (nxF (nxF (nxF σ))))) := by rw [r5, bnd_s rfl]
              have ew : Nu (q3F Kd Nu (X 97 10) σ).2.1 = Nu (σ.1 + 1 + 1 + 1) := by rw [r3]; rfl
              have ep : Nu (paF Kd 129 σ).2.1 = Nu (σ.1 + 1) := by rw [r1]; rfl
              rw [ew, ep]
              -- the test
              have hM0 : MM nx σ.2.1 (σ.2.1 + i) g.2.1 g.2.2.1 σ.2.2 (nxF (nxF (nxF (nxF (nxF σ))))) 0 0 (gOp (gDe 0 (gAt (σ.1 + 1 + 1 + 1 + 1 + 1) (gAt (σ.1 + 1 + 1 + 1 + 1) (gAt (σ.1 + 1 + 1 + 1) (gAt (σ.1 + 1 + 1) (gAt (σ.1 + 1) g))))))) := by
                refine ⟨rfl, k4, rfl, Nat.le_refl _, ?_, fun j hj => ?_, fun j _ => ⟨rfl, rfl⟩, fun j _ => rfl, fun _ => 0, rfl, rfl, fun j hj => ?_⟩
                · show g.1.2.2.1 + σ.2.1 = σ.2.1 + i + σ.2.1
                  omega
                · exact absurd (show j < σ.2.1 - σ.2.1 from hj) (by omega)
                · exact absurd (show j < σ.2.1 - σ.2.1 from hj) (by omega)
              have w00 : ∀ (f : Nat → Int32), upd f 0 0 0 = 0 := fun f => by simp [upd]
              generalize hM3 : ((m.1, upd m.2.1 (24 * nx + i) (Nu (σ.1 + 1)), upd m.2.2.1 (24 * nx + i) (Nu (σ.1 + 1 + 1 + 1)), upd m.2.2.2 (24 * nx + i) (ic (880 * nx + (σ.2.1 + i)))) : LnS) = M3
              obtain ⟨s1, s2⟩ := hS M3 σ.2.1 (σ.2.1 + i) g.2.1 g.2.2.1 σ.2.2 (.int (ic (24 * nx + i))) K (by omega) _ 0 _ hM0 hn5 (by show σ.2.1 ≤ σ.1 + 1 + 1 + 1 + 1 + 1; omega) (by omega) (w00 g.2.2.2.1) (w00 g.2.2.2.2.1) (w00 g.2.2.2.2.2)
              have toA : ∀ (R : Prop), (R → pA u L xs (mS nx X M3) Z (.int (ic (24 * nx + i))) K (gOp (gDe 0 (gAt (σ.1 + 1 + 1 + 1 + 1 + 1) (gAt (σ.1 + 1 + 1 + 1 + 1) (gAt (σ.1 + 1 + 1 + 1) (gAt (σ.1 + 1 + 1) (gAt (σ.1 + 1) g)))))))) → R → [Value.int (b2i (decide (Kd σ.1 = 129)))] ≠ [thr] ∧ WP 120 0 5 [.ref 97, poi, poi] ([Value.int (b2i (decide (Kd σ.1 = 129)))] ++ []) (hX u L xs (gS (mS nx X m) g) Z) K := by
                intro R z r
                refine toE R (fun r => ?_) r
                rw [if_pos (show Kd (σ.1 + 1 + 1 + 1 + 1) = ic (129 + 2) from cx)]
                refine l_111 hm i24 ?_
                have := z r
                unfold pA at this
                rw [← hM3] at this
                rw [← k5] at this
                exact this
              have oE := hG _ hn5
              by_cases cE0 : (E (nxF (nxF (nxF (nxF (nxF σ)))))).1 = 0
              · obtain ⟨w1, w2, w3⟩ := hW _ cE0
                have z5 : (nxF (nxF (nxF (nxF (nxF σ))))).1 = σ.1 + 1 + 1 + 1 + 1 + 1 := rfl
                have z6 : (nxF (nxF (nxF (nxF (nxF σ))))).2.1 = σ.2.1 := rfl
                have zz : (E (nxF (nxF (nxF (nxF (nxF σ)))))).2.2.1 ≤ (E (nxF (nxF (nxF (nxF (nxF σ)))))).2.1 := by omega
                have e75 := fun G (hM : MM nx σ.2.1 (σ.2.1 + i) g.2.1 g.2.2.1 σ.2.2 (E (nxF (nxF (nxF (nxF (nxF σ)))))).2 1 0 G) => e_175 (u := u) (L := L) (xs := xs) (K := K) (M := M3) (l1 := .int (ic (24 * nx + i))) (pl := Nu (σ.1 + 1)) (wa := Nu (σ.1 + 1 + 1 + 1)) hm i24 h' hM oE zz (by rw [← hM3]; exact k2) (by rw [← hM3]) (by rw [← hM3]) (by rw [← hM3])
                have go : ∀ (R : Prop), (R → ∀ G, MM nx σ.2.1 (σ.2.1 + i) g.2.1 g.2.2.1 σ.2.2 (E (nxF (nxF (nxF (nxF (nxF σ)))))).2 1 0 G → WP 120 0 175 [.ref 97, .int (ic (24 * nx + i)), .int 0] [] (hX u L xs (gS (mS nx X M3) G) Z) K) → R → [Value.int (b2i (decide (Kd σ.1 = 129)))] ≠ [thr] ∧ WP 120 0 5 [.ref 97, poi, poi] ([Value.int (b2i (decide (Kd σ.1 = 129)))] ++ []) (hX u L xs (gS (mS nx X m) g) Z) K := by
                  intro R z r
                  exact toA R (fun r => s1 cE0 (fun G M' _ => g_249_0 M'.2.2.1 (z r G M'))) r
                by_cases c59 : Kd (E (nxF (nxF (nxF (nxF (nxF σ)))))).2.1 = 59
                · have r7 : q7F Kd Nu E (X 97 10) σ = (0, nxF (E (nxF (nxF (nxF (nxF (nxF σ)))))).2) := by unfold q7F; rw [r6, bnd_s cE0]; exact pa_y c59
                  rw [r7]
                  exact ⟨fun _ hK => go True (fun _ G hM => (e75 G hM).1 c59 hK) trivial, fun h => absurd rfl h⟩
                · have r7 : q7F Kd Nu E (X 97 10) σ = (1, (E (nxF (nxF (nxF (nxF (nxF σ)))))).2) := by unfold q7F; rw [r6, bnd_s cE0]; exact pa_n c59
                  rw [r7]
                  exact ⟨fun h => absurd (show (1 : Int32) = 0 from h) (by decide), fun _ hK => go True (fun _ G hM => (e75 G hM).2 c59 hK) trivial⟩
              · have r7 : q7F Kd Nu E (X 97 10) σ = E (nxF (nxF (nxF (nxF (nxF σ))))) := by unfold q7F; rw [r6, bnd_f cE0]
                rw [r7]
                refine ⟨fun h => absurd h cE0, fun _ hK => toA True (fun _ => s2 cE0 (fun G ft => ?_)) trivial⟩
                obtain ⟨t1, t2, t3, t4, t5, t6⟩ := ft
                rw [x100] at t1
                unfold pE
                refine f_175 hm ⟨t1, by rw [← t1]; exact t2, by rw [← t1]; exact t3, t5, ?_⟩ hK
                rw [← hM3]
                refine ⟨(FO_a i24 (FO_w i24 (fo1 (Nu (σ.1 + 1))))).1, fun j hj => ?_⟩
                obtain ⟨q1, q2⟩ := t6 j (by omega)
                obtain ⟨q3, q4⟩ := k9.2 j hj
                exact ⟨q1.trans q3, q2.trans q4⟩
            · have r5 : q5F Kd Nu (X 97 10) σ = (1, nxF (nxF (nxF (nxF σ)))) := by unfold q5F; rw [r4, bnd_s rfl]; exact pa_n cx
              have r7 : q7F Kd Nu E (X 97 10) σ = (1, nxF (nxF (nxF (nxF σ)))) := by unfold q7F; rw [r5, bnd_p (show (1 : Int32) ≠ 0 by decide), bnd_p (show (1 : Int32) ≠ 0 by decide)]
              rw [r7]
              refine ⟨fun h => absurd (show (1 : Int32) = 0 from h) (by decide), fun _ hK => toE True (fun _ => ?_) trivial⟩
              rw [if_neg (show ¬ Kd (σ.1 + 1 + 1 + 1 + 1) = ic (129 + 2) from cx)]
              exact f_111 hm i24 (flt 1 (σ.1 + 1 + 1 + 1 + 1) (σ.1 + 1 + 1 + 1 + 1) _ (by omega) (by omega) hn4.1 (FO_w i24 (fo1 _))) hK
          · have r4 : ∃ f : Nat, 0 < f ∧ f ≤ 5 ∧ bnd (q3F Kd Nu (X 97 10) σ) (pnF Kd Nu 1 60) = (ic f, nxF (nxF (nxF σ))) ∧ (if Kd (σ.1 + 1 + 1 + 1) = 128 then (if ¬ Nu (σ.1 + 1 + 1 + 1) < 1 ∧ ¬ 60 < Nu (σ.1 + 1 + 1 + 1) then gAt (σ.1 + 1 + 1 + 1) (gAt (σ.1 + 1 + 1) (gAt (σ.1 + 1) g)) else gFa (4 + 16 * X 100 (σ.1 + 1 + 1 + 1)) (gAt (σ.1 + 1 + 1 + 1) (gAt (σ.1 + 1 + 1) (gAt (σ.1 + 1) g)))) else gFa (1 + 16 * X 100 (σ.1 + 1 + 1 + 1)) (gAt (σ.1 + 1 + 1 + 1) (gAt (σ.1 + 1 + 1) (gAt (σ.1 + 1) g)))) = gFa (ic f + 16 * X 100 (σ.1 + 1 + 1 + 1)) (gAt (σ.1 + 1 + 1 + 1) (gAt (σ.1 + 1 + 1) (gAt (σ.1 + 1) g))) := by
              rw [r3, bnd_s rfl]
              unfold pnF
              rw [show (((0 : Int32), nxF (nxF (nxF σ))) : Int32 × PS).2.1 = σ.1 + 1 + 1 + 1 from rfl]
              by_cases q : Kd (σ.1 + 1 + 1 + 1) = 128
              · have q2 : ¬ (¬ Nu (σ.1 + 1 + 1 + 1) < 1 ∧ ¬ 60 < Nu (σ.1 + 1 + 1 + 1)) := fun z => cn2 ⟨q, z⟩
                rw [if_pos q, if_neg q2, if_pos q, if_neg q2]
                exact ⟨4, by omega, by omega, rfl, rfl⟩
              · rw [if_neg q, if_neg q]
                exact ⟨1, by omega, by omega, rfl, rfl⟩
            obtain ⟨f, f1, f2, r4, eg⟩ := r4
            have hf : ic f ≠ 0 := by rw [show (0 : Int32) = ic 0 from rfl, ne_eq, ic_eq (by omega) (by omega)]; omega
            have r7 : q7F Kd Nu E (X 97 10) σ = (ic f, nxF (nxF (nxF σ))) := by unfold q7F q5F; rw [r4, bnd_p hf, bnd_p hf, bnd_p hf]
            rw [r7]
            refine ⟨fun h => absurd h hf, fun _ hK => toW True (fun _ => ?_) trivial⟩
            rw [tn2, if_neg cn2, eg]
            exact st105 _ _ (f_106 hm i24 (flt f (σ.1 + 1 + 1 + 1) _ _ f1 f2 hn3.1 (FO_w i24 (fo1 _))) hK)
        · have r3 : q3F Kd Nu (X 97 10) σ = (1, nxF (nxF σ)) := by unfold q3F; rw [r2, bnd_s rfl]; exact pa_n cw
          have r7 : q7F Kd Nu E (X 97 10) σ = (1, nxF (nxF σ)) := by unfold q7F q5F; rw [r3, bnd_p (show (1 : Int32) ≠ 0 by decide), bnd_p (show (1 : Int32) ≠ 0 by decide), bnd_p (show (1 : Int32) ≠ 0 by decide), bnd_p (show (1 : Int32) ≠ 0 by decide)]
          rw [r7]
          refine ⟨fun h => absurd (show (1 : Int32) = 0 from h) (by decide), fun _ hK => toN True (fun _ => ?_) trivial⟩
          rw [tn, if_pos cn, if_pos cn.1, if_pos cn.2]
          refine st87 _ _ ?_
          rw [w_120_88, w_120_89, show (1 : Int32) = ic 1 from rfl, w_120_90, m_takeWord0 (g := gAt (σ.1 + 1 + 1) (gAt (σ.1 + 1) g)) hMe1 (by omega) k4 (by rw [a2]; exact hn2.1), a2, if_neg (show ¬ Kd (σ.1 + 1 + 1) = ic (129 + 1) from cw), x100]
          refine ⟨by simp, ?_⟩
          rw [app0]
          exact f_93 hm i24 (flt 1 (σ.1 + 1 + 1) (σ.1 + 1 + 1) _ (by omega) (by omega) hn2.1 (fo1 _)) hK
      · have r2 : ∃ f : Nat, 0 < f ∧ f ≤ 5 ∧ q2F Kd Nu (X 97 10) σ = (ic f, nxF σ) ∧ (if Kd (σ.1 + 1) = 128 then (if ¬ Nu (σ.1 + 1) < 0 ∧ ¬ X 97 10 - 1 < Nu (σ.1 + 1) then gAt (σ.1 + 1) g else gFa (4 + 16 * X 100 (σ.1 + 1)) (gAt (σ.1 + 1) g)) else gFa (1 + 16 * X 100 (σ.1 + 1)) (gAt (σ.1 + 1) g)) = gFa (ic f + 16 * X 100 (σ.1 + 1)) (gAt (σ.1 + 1) g) := by
          unfold q2F
          rw [r1, bnd_s rfl]
          unfold pnF
          rw [p1]
          by_cases q : Kd (σ.1 + 1) = 128
          · have q2 : ¬ (¬ Nu (σ.1 + 1) < 0 ∧ ¬ X 97 10 - 1 < Nu (σ.1 + 1)) := fun z => cn ⟨q, z⟩
            rw [if_pos q, if_neg q2, if_pos q, if_neg q2]
            exact ⟨4, by omega, by omega, rfl, rfl⟩
          · rw [if_neg q, if_neg q]
            exact ⟨1, by omega, by omega, rfl, rfl⟩
        obtain ⟨f, f1, f2, r2, eg⟩ := r2
        have hf : ic f ≠ 0 := by rw [show (0 : Int32) = ic 0 from rfl, ne_eq, ic_eq (by omega) (by omega)]; omega
        have r7 : q7F Kd Nu E (X 97 10) σ = (ic f, nxF σ) := by unfold q7F q5F q3F; rw [r2, bnd_p hf, bnd_p hf, bnd_p hf, bnd_p hf, bnd_p hf]
        rw [r7]
        refine ⟨fun h => absurd h hf, fun _ hK => toN True (fun _ => ?_) trivial⟩
        rw [tn, if_neg cn, eg]
        exact st87 _ _ (f_88 hm i24 (flt f (σ.1 + 1) _ _ f1 f2 hn1.1 (fo1 _)) hK)
  · have r1 : paF Kd 129 σ = (1, σ) := pa_n c129
    have r7 : q7F Kd Nu E (X 97 10) σ = (1, σ) := by unfold q7F q5F q3F q2F; rw [r1, bnd_p (show (1 : Int32) ≠ 0 by decide), bnd_p (show (1 : Int32) ≠ 0 by decide), bnd_p (show (1 : Int32) ≠ 0 by decide), bnd_p (show (1 : Int32) ≠ 0 by decide), bnd_p (show (1 : Int32) ≠ 0 by decide), bnd_p (show (1 : Int32) ≠ 0 by decide)]
    have er : ∃ q, cLn Kd Nu E (X 97 10) i σ ℓ = (1, σ, q) := by
      unfold cLn
      rw [if_neg (fun z => c129 z.1), r7]
      exact ⟨_, rfl⟩
    obtain ⟨q, er⟩ := er
    rw [er]
    refine ⟨fun h => absurd (show (1 : Int32) = 0 from h) (by decide), fun _ hK => ⟨by simp [thr], ?_⟩⟩
    rw [app1, w_120_5, if_neg (by simp [c129, b2i]), w_120_8, w_120_9, w_120_10, m_wrong0 hm' k4 hp, k3, x100]
    refine ⟨by simp, ?_⟩
    rw [app0, w_120_13]
    exact out 1 (by omega) (by omega) hK
end
