/-! THE MODEL'S WORLD: is a run held, a minute -/
section
variable {u : Nat × Nat} {L : Nat} {xs : Nat → Int32} {X : Nat → Nat → Int32} {Z : Nat → Nat → Int64} {K : List Value → AH → Prop} {V : Nat → Nat → Int32}
def TX (X : Nat → Nat → Int32) : Prop := ∃ h, h < 2 ∧ X 97 38 = ic h ∧ X 120 h = X 11 0 ∧ ∀ l, l < lnN X → X 121 (24 * h + l) = X 12 l ∧ X 122 (24 * h + l) = X 13 l ∧ stN X l ≤ enN X l ∧ ∃ a, X 123 (24 * h + l) = ic a ∧ (880 * h ≤ a ∧ a + (enN X l - stN X l) < 880 * h + 880) ∧ cdOK X (stN X l) (enN X l - stN X l) a
theorem dp_itr {r p np n b m : Nat} {D : Nat → Nat} (hD : dpOK X b m D) : ∀ d j S, j + d ≤ m → (itr (stpF X V r p np n) (b + j) d (D j, S)).1 = D (j + d) := by
  intro d
  induction d with
  | zero => intro j S _; rfl
  | succ d ih =>
    intro j S hj
    unfold itr
    obtain ⟨p1, p2⟩ := hD.2.2 j (by omega)
    have es : ∃ S', stpF X V r p np n (b + j) (D j, S) = (D (j + 1), S') := by
      unfold stpF
      by_cases hp : remI (X 15 (b + j)) 256 = 128 ∨ ¬ remI (X 15 (b + j)) 256 < 133
      · obtain ⟨q1, q2⟩ := p1 hp
        rw [if_pos hp, if_pos (show (D j, S).1 < 32 from q1), q2]
        exact ⟨_, rfl⟩
      · obtain ⟨q1, q2⟩ := p2 hp
        rw [if_neg hp, if_pos (show 2 ≤ (D j, S).1 from q1), show D (j + 1) = D j - 1 by omega]
        exact ⟨_, rfl⟩
    obtain ⟨S', es⟩ := es
    rw [es, show b + j + 1 = b + (j + 1) by omega, ih (j + 1) S' (by omega), show j + 1 + d = j + (d + 1) by omega]
theorem m_worth {r a l p : Nat} {P : Nat → Int32} (hx : RdOK X) (hrr : RR X) (hm : MR X V) (ho : VOK V) (hc : CI V) (hr : r < 12) (hv : V 7 r = ic p) (hh : p < npN X) (hcd : cdOK X (stN X l) (enN X l - stN X l) a) (hK : ∀ P', K [.int (wthF (valF X V r p (npN X) (nrN V) l))] (hX u L xs (px X P') Z)) : Call 125 [.ref 97, .int (ic a), .int (ic r)] (hX u L xs (px X P) Z) K := by
  obtain ⟨h1, h2, h3, D, hD⟩ := hcd
  have h10 := hx.2.2.1
  have ep : pN V r = p := by unfold pN; rw [hv, ic_clamp (by omega)]
  have e1 : (valF X V r p (npN X) (nrN V) l).1 = 1 := by
    have := dp_itr (X := X) (V := V) (r := r) (p := p) (np := npN X) (n := nrN V) hD (enN X l - stN X l) 0 (V 23) (by omega)
    rw [hD.1, Nat.zero_add, hD.2.1] at this
    exact this
  have ew : wthF (valF X V r p (npN X) (nrN V) l) = (valF X V r p (npN X) (nrN V) l).2 0 := by
    unfold wthF
    rw [e1]
    rfl
  rw [ew] at hK
  have g := l_worth (u := u) (L := L) (xs := xs) (Z := Z) (K := K) (f0 := ic a) hx hrr hm ho hc hr (by rw [ep]; exact hv) (by rw [ep]; exact hh) h1 h2 h3 hD (enN X l - stN X l) 0 P (V 23) poi poi poi (by omega) (fun t ht => by rw [hD.1] at ht; omega) (fun P' => by
    rw [hD.1, ep]
    exact hK P')
  rw [hD.1, ← ic_z] at g
  simp (disch := first | assumption | omega) only [en_125, w_125_0, w_125_1, w_125_2, w_125_3, w_125_6, w_125_9, w_125_10, w_125_11, w_125_14, w_125_15, w_125_18, w_125_19, w_125_20, w_125_22, w_125_24, w_125_25, w_125_28, w_125_30, w_125_31, w_125_34, w_125_36, w_125_38, w_125_41, w_125_42, w_125_45, w_125_47, w_125_49, w_125_50, w_125_53, w_125_54, w_125_57, w_125_58, w_125_59, w_125_62, w_125_64, w_125_66, w_125_69, w_125_70, w_125_71, w_125_74, w_125_75, w_125_76, w_125_77, w_125_80, w_125_82, w_125_83, w_125_84, w_125_85, w_125_88, w_125_91, w_125_92, w_125_93, w_125_96, w_125_97, w_125_98, w_125_99, w_125_102, w_125_103, w_125_106, w_125_109, w_125_112, w_125_113, w_125_116, w_125_118, w_125_119, w_125_121, w_125_122, w_125_125, w_125_127, w_125_128, w_125_129, w_125_130, w_125_132, w_125_133, w_125_136, w_125_138, w_125_139, w_125_140, w_125_142, w_125_143, w_125_146, w_125_148, w_125_150, w_125_151, w_125_154, w_125_156, w_125_157, w_125_160, w_125_162, w_125_164, w_125_165, w_125_168, w_125_170, w_125_171, w_125_174, w_125_176, w_125_178, w_125_181, w_125_182, w_125_185, w_125_186, w_125_189, w_125_191, w_125_193, w_125_196, w_125_198, w_125_200, w_125_203, w_125_204, w_125_207, w_125_208, w_125_211, w_125_213, w_125_216, w_125_218, w_125_221, w_125_222, w_125_225, w_125_226, w_125_227, w_125_230, w_125_233, w_125_234, w_125_237, w_125_238, w_125_239]
  exact g
theorem ic_mul {a b : Nat} : ic a * ic b = ic (a * b) := by
  unfold ic
  rw [Int32.ofNat_mul]
theorem l_mheld {r p h : Nat} {stood : Int32} (hx : RdOK X) (hrr : RR X) (hr : r < 12) (hh : p < npN X) (h2 : h < 2) (t1 : X 97 38 = ic h) (t2 : X 120 h = X 11 0) (tl : ∀ l, l < lnN X → X 121 (24 * h + l) = X 12 l ∧ X 122 (24 * h + l) = X 13 l ∧ stN X l ≤ enN X l ∧ ∃ a, X 123 (24 * h + l) = ic a ∧ cdOK X (stN X l) (enN X l - stN X l) a) : ∀ d k V P, k + d = lnN X → MR X V → VOK V → CI V → V 7 r = ic p → V 0 5 - V 13 r = stood → (∀ P', K [.int (b2i (helF X r p (npN X) (nrN V) k d V).1)] (hX u L xs (px X P') Z)) → WP 131 0 26 [.ref 97, .int (ic r), .int stood, .int 0, .int (ic (24 * h + k))] [] (hX u L xs (px X P) Z) K := by
  have u1 := hx.2.2.2.2.2.2.1
  have u2 := hx.2.2.2.2.2.2.2.1
  have eh : (h < 2) = True := eq_true h2
  have e24 : (24 : Int32) * ic h = ic (24 * h) := ic_mul (a := 24)
  have er12 : (12 + r < 392) = True := eq_true (by omega)
  intro d
  induction d with
  | zero =>
    intro k V P hk hm ho hc hv hs hK
    have e : (24 * h + lnN X ≤ 24 * h + k) = True := eq_true (by omega)
    rw [w_131_26]
    simp (disch := first | assumption | omega) only [en_131, w_131_0, w_131_1, w_131_4, w_131_5, w_131_8, w_131_10, w_131_11, w_131_12, w_131_13, w_131_14, w_131_15, w_131_16, w_131_17, w_131_19, w_131_20, w_131_23, w_131_24, w_131_28, w_131_30, w_131_31, w_131_34, w_131_35, w_131_36, w_131_39, w_131_40, w_131_43, w_131_44, w_131_45, w_131_49, w_131_52, w_131_53, w_131_56, w_131_58, w_131_59, w_131_60, w_131_63, w_131_65, w_131_66, w_131_67, w_131_68, w_131_71, w_131_72, w_131_73, w_131_76, w_131_78, w_131_79, w_131_82, w_131_83, w_131_84, w_131_87, w_131_89, w_131_90, w_131_91, w_131_94, w_131_97, w_131_98, w_131_101, w_131_102, w_131_103, w_131_106, w_131_109, w_131_110, px_n, t1, t2, u1, e24, inB_ic, ic_clamp, eh, true_and, ic_add, ic_le, e, if_true, zb0]
    exact hK P
  | succ d ih =>
    intro k V P hk hm ho hc hv hs hK
    have e : (24 * h + lnN X ≤ 24 * h + k) = False := eq_false (by omega)
    have e48 : (24 * h + k < 48) = True := eq_true (by omega)
    obtain ⟨l1, l2, l3, a, l4, l5⟩ := tl k (by omega)
    have p7 : px X P 113 (12 + r) = V 7 r := m7 (px_MR hm) hr
    unfold helF at hK
    rw [hs] at hK
    have no : (∀ P', K [.int (b2i (helF X r p (npN X) (nrN V) (k + 1) d V).1)] (hX u L xs (px X P') Z)) → WP 131 0 103 [.ref 97, .int (ic r), .int stood, .int 0, .int (ic (24 * h + k))] [] (hX u L xs (px X P) Z) K := by
      intro hK'
      rw [w_131_103, ic_add1, w_131_106]
      exact ih (k + 1) V P (by omega) hm ho hc hv hs hK'
    rw [w_131_26]
    simp (disch := first | assumption | omega) only [en_131, w_131_0, w_131_1, w_131_4, w_131_5, w_131_8, w_131_10, w_131_11, w_131_12, w_131_13, w_131_14, w_131_15, w_131_16, w_131_17, w_131_19, w_131_20, w_131_23, w_131_24, w_131_28, w_131_30, w_131_31, w_131_34, w_131_35, w_131_36, w_131_39, w_131_40, w_131_43, w_131_44, w_131_45, w_131_48, w_131_49, w_131_52, w_131_53, w_131_56, w_131_58, w_131_59, w_131_60, w_131_63, w_131_65, w_131_66, w_131_67, w_131_68, w_131_71, w_131_72, w_131_73, w_131_76, w_131_78, w_131_79, w_131_83, w_131_84, w_131_87, w_131_89, w_131_90, w_131_91, w_131_94, w_131_97, w_131_98, w_131_101, w_131_102, w_131_106, w_131_109, w_131_110, p7, px_n, t1, t2, u1, e24, a0, a12, a24, a36, a48, a60, a72, a152, a232, a312, ic_clamp, inB_ic, eh, e48, er12, true_and, ic_add, ic_le, e, if_false, l1, l2, not_true_eq_false]
    by_cases c1 : X 12 k = V 7 r
    · by_cases c2 : stood < X 13 k
      · rw [if_pos ⟨c1, c2⟩] at hK
        have c2' : ¬ X 13 k ≤ stood := by rw [nle]; simpa using c2
        rw [if_neg (not_not_intro c1), if_neg c2']
        have mw := fun K hK => m_worth (u := u) (L := L) (xs := xs) (Z := Z) (K := K) (P := P) hx hrr hm ho hc hr hv hh l5 hK
        simp (disch := first | assumption | omega) only [en_131, w_131_0, w_131_1, w_131_4, w_131_5, w_131_8, w_131_10, w_131_11, w_131_12, w_131_13, w_131_14, w_131_15, w_131_16, w_131_17, w_131_19, w_131_20, w_131_23, w_131_24, w_131_28, w_131_30, w_131_31, w_131_34, w_131_35, w_131_36, w_131_39, w_131_40, w_131_43, w_131_44, w_131_45, w_131_48, w_131_49, w_131_52, w_131_53, w_131_56, w_131_58, w_131_59, w_131_60, w_131_63, w_131_65, w_131_66, w_131_67, w_131_68, w_131_71, w_131_72, w_131_73, w_131_76, w_131_78, w_131_79, w_131_82, w_131_83, w_131_84, w_131_87, w_131_89, w_131_90, w_131_91, w_131_94, w_131_97, w_131_98, w_131_101, w_131_102, w_131_106, w_131_109, w_131_110, a0, a12, a24, a36, a48, a60, a72, a152, a232, a312, ic_clamp, inB_ic, px_n, e48, true_and, l4]
        refine mw _ (fun P' => ?_)
        simp only [ne_thr, app1, true_and]
        simp (disch := first | assumption | omega) only [en_131, w_131_0, w_131_1, w_131_4, w_131_5, w_131_8, w_131_10, w_131_11, w_131_12, w_131_13, w_131_14, w_131_15, w_131_16, w_131_17, w_131_19, w_131_20, w_131_23, w_131_24, w_131_28, w_131_30, w_131_31, w_131_34, w_131_35, w_131_36, w_131_39, w_131_40, w_131_43, w_131_44, w_131_45, w_131_48, w_131_49, w_131_52, w_131_53, w_131_56, w_131_58, w_131_59, w_131_60, w_131_63, w_131_65, w_131_66, w_131_67, w_131_68, w_131_71, w_131_72, w_131_73, w_131_76, w_131_78, w_131_79, w_131_82, w_131_83, w_131_84, w_131_87, w_131_89, w_131_90, w_131_91, w_131_94, w_131_97, w_131_98, w_131_101, w_131_102, w_131_106, w_131_109, w_131_110]
        by_cases c3 : wthF (valF X V r p (npN X) (nrN V) k) = 0
        · rw [if_pos c3] at hK ⊢
          rw [w_131_103, ic_add1, w_131_106]
          have hm' : MR X (sk V (valF X V r p (npN X) (nrN V) k).2) := MR_ex hm (fun a _ _ h3 => sk_n h3)
          have en : nrN (sk V (valF X V r p (npN X) (nrN V) k).2) = nrN V := by unfold nrN; rw [sk_n (by decide)]
          refine ih (k + 1) _ P' (by omega) hm' (VOK_of (sk_n (by decide)) (sk_n (by decide)) ho) (CI_of (sk_n (by decide)) (sk_n (by decide)) (sk_n (by decide)) (sk_n (by decide)) (sk_n (by decide)) (sk_n (by decide)) hc) (by rw [sk_n (by decide)]; exact hv) (by rw [sk_n (by decide), sk_n (by decide)]; exact hs) (by rw [en]; exact hK)
        · rw [if_neg c3] at hK ⊢
          rw [w_131_103, ic_add1, w_131_106, w_131_26]
          by_cases z : 24 * h + lnN X ≤ 24 * h + (k + 1)
          · simp (disch := first | assumption | omega) only [en_131, w_131_0, w_131_1, w_131_4, w_131_5, w_131_8, w_131_10, w_131_11, w_131_12, w_131_13, w_131_14, w_131_15, w_131_16, w_131_17, w_131_19, w_131_20, w_131_23, w_131_24, w_131_28, w_131_30, w_131_31, w_131_34, w_131_35, w_131_36, w_131_39, w_131_40, w_131_43, w_131_44, w_131_45, w_131_48, w_131_49, w_131_53, w_131_56, w_131_58, w_131_59, w_131_60, w_131_63, w_131_65, w_131_66, w_131_67, w_131_68, w_131_71, w_131_72, w_131_73, w_131_76, w_131_78, w_131_79, w_131_82, w_131_83, w_131_84, w_131_87, w_131_89, w_131_90, w_131_91, w_131_94, w_131_97, w_131_98, w_131_101, w_131_102, w_131_103, w_131_106, w_131_109, w_131_110, px_n, t1, t2, u1, e24, inB_ic, ic_clamp, eh, true_and, ic_add, ic_le, z, if_true, zb1, Nat.add_assoc]
            exact hK P'
          · simp (disch := first | assumption | omega) only [en_131, w_131_0, w_131_1, w_131_4, w_131_5, w_131_8, w_131_10, w_131_11, w_131_12, w_131_13, w_131_14, w_131_15, w_131_16, w_131_17, w_131_19, w_131_20, w_131_23, w_131_24, w_131_28, w_131_30, w_131_31, w_131_34, w_131_35, w_131_36, w_131_39, w_131_40, w_131_43, w_131_44, w_131_45, w_131_48, w_131_49, w_131_53, w_131_56, w_131_58, w_131_59, w_131_60, w_131_63, w_131_65, w_131_66, w_131_67, w_131_68, w_131_71, w_131_72, w_131_73, w_131_76, w_131_78, w_131_79, w_131_82, w_131_83, w_131_84, w_131_87, w_131_89, w_131_90, w_131_91, w_131_94, w_131_97, w_131_98, w_131_101, w_131_102, w_131_103, w_131_106, w_131_109, w_131_110, px_n, t1, t2, u1, e24, inB_ic, ic_clamp, eh, true_and, ic_add, ic_le, z, if_false, show ((1 : Int32) = 0) = False by decide, not_false_eq_true, if_true, zb1, Nat.add_assoc]
            exact hK P'
      · rw [if_neg (fun q => c2 q.2)] at hK
        have c2' : X 13 k ≤ stood := by rw [nle]; exact c2
        rw [if_neg (not_not_intro c1), if_pos c2']
        exact no hK
    · rw [if_neg (fun q => c1 q.1)] at hK
      rw [if_pos c1]
      exact no hK
theorem m_isHeld {r p : Nat} (hx : RdOK X) (hrr : RR X) (ht : TX X) (hm : MR X V) (ho : VOK V) (hc : CI V) (hr : r < 12) (hv : V 7 r = ic p) (hh : p < npN X) (hK : ∀ P', K [.int (b2i (helF X r p (npN X) (nrN V) 0 (lnN X) V).1)] (hX u L xs (px X P') Z)) : Call 131 [.ref 97, .int (ic r)] (hX u L xs X Z) K := by
  obtain ⟨h, h2, t1, t2, tl'⟩ := ht
  have tl := fun l (hl : l < lnN X) => let ⟨q1, q2, q3, a, q4, _, q5⟩ := tl' l hl; (⟨q1, q2, q3, a, q4, q5⟩ : X 121 (24 * h + l) = X 12 l ∧ X 122 (24 * h + l) = X 13 l ∧ stN X l ≤ enN X l ∧ ∃ a, X 123 (24 * h + l) = ic a ∧ cdOK X (stN X l) (enN X l - stN X l) a)
  have e24 : (24 : Int32) * ic h = ic (24 * h) := ic_mul (a := 24)
  have e36 : (36 + r < 392) = True := eq_true (by omega)
  have g := l_mheld (u := u) (L := L) (xs := xs) (Z := Z) (K := K) hx hrr hr hh h2 t1 t2 tl (lnN X) 0 V (X 129) (by omega) hm ho hc hv rfl hK
  rw [px_v] at g
  have h23 := hm.1
  simp (disch := first | assumption | omega) only [en_131, w_131_0, w_131_1, w_131_4, w_131_5, w_131_8, w_131_10, w_131_11, w_131_12, w_131_13, w_131_14, w_131_15, w_131_16, w_131_17, w_131_19, w_131_20, w_131_23, w_131_24, w_131_28, w_131_30, w_131_31, w_131_34, w_131_35, w_131_36, w_131_39, w_131_40, w_131_43, w_131_44, w_131_45, w_131_48, w_131_49, w_131_52, w_131_53, w_131_56, w_131_58, w_131_59, w_131_60, w_131_63, w_131_65, w_131_66, w_131_67, w_131_68, w_131_71, w_131_72, w_131_73, w_131_76, w_131_78, w_131_79, w_131_82, w_131_83, w_131_84, w_131_87, w_131_89, w_131_90, w_131_91, w_131_94, w_131_97, w_131_98, w_131_101, w_131_102, w_131_103, w_131_106, w_131_109, w_131_110, a0, a12, a24, a36, a48, a60, a72, a152, a232, a312, ic_clamp, inB_ic, e36, true_and, h23, m13 hm, t1, e24]
  exact g
end
