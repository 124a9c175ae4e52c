/-! THE LAW: the two calls that may throw, and all calls one after the other -/
section
variable {k d pc : Nat} {ls r : List Value} {h : AH} {Q : List Value → AH → Prop} {i : Instr} {k' o x : Nat} {p0 p1 : Int32}
theorem WP_wrap0 {v : Int32} {h1 : AH} {e : AE} (hd : decode (mCode k) pc = .ok (i, 3)) (hl : 3 = lenI i 3) (hf : isFin k i = false) (hc : callOf k i = none) (hw : wrapOf k i = some k') (hdp : dep k' [.ref x, .int p0, .int p1] = 0) (hq : catS r ≤ 8 ∧ o < h.2.1 ∧ recvOK 0 k' [.ref x, .int p0, .int p1] h = true ∧ rk k' 0 + 1 < rk k d) (hcall : Call k' [.ref x, .int p0, .int p1] h (fun rv h' => rv = [.int v] ∧ h' = h1)) (hs : stL (h1.2.2 o) 0 v.toInt64 = some e) (h3 : o < h1.2.1 ∧ h1.1 = h.1) (hQ : WP k d (pc + 3) ls (.int 0 :: r) (setC h1 o e) Q) : WP k d pc ls (.ref o :: .int p1 :: .int p0 :: .ref x :: r) h Q := by
  obtain ⟨n1, pf, sf, hf1, rv, a1, a2, rfl, rfl⟩ := hcall
  obtain ⟨n2, pf2, sf2, hf2, rv2, b1, b2, b3⟩ := hQ
  rw [hdp] at a1
  refine ⟨max n1 n2 + 1, pf2, sf2, hf2, rv2, ?_, b2, b3⟩
  rw [ev, hd]
  simp only [if_pos hl, hf, hc, hw, Bool.false_eq_true, if_false]
  rw [if_pos hq, ev_up a1 (Nat.le_max_left _ _)]
  simp only [a2, hs, if_pos h3]
  exact ev_up b1 (Nat.le_max_right _ _)
theorem WP_wrap1 {h1 : AH} (hd : decode (mCode k) pc = .ok (i, 3)) (hl : 3 = lenI i 3) (hf : isFin k i = false) (hc : callOf k i = none) (hw : wrapOf k i = some k') (hdp : dep k' [.ref x, .int p0, .int p1] = 0) (hq : catS r ≤ 8 ∧ o < h.2.1 ∧ recvOK 0 k' [.ref x, .int p0, .int p1] h = true ∧ rk k' 0 + 1 < rk k d) (hcall : Call k' [.ref x, .int p0, .int p1] h (fun rv h' => rv = [thr] ∧ h' = h1)) (h3 : h1.1 = h.1) (hQ : WP k d (pc + 3) ls (.int 1 :: r) ((h.1.1 + 8, h.1.2 + 64), h1.2) Q) : WP k d pc ls (.ref o :: .int p1 :: .int p0 :: .ref x :: r) h Q := by
  obtain ⟨n1, pf, sf, hf1, rv, a1, a2, rfl, rfl⟩ := hcall
  obtain ⟨n2, pf2, sf2, hf2, rv2, b1, b2, b3⟩ := hQ
  rw [hdp] at a1
  refine ⟨max n1 n2 + 1, pf2, sf2, hf2, rv2, ?_, b2, b3⟩
  rw [ev, hd]
  simp only [if_pos hl, hf, hc, hw, Bool.false_eq_true, if_false]
  rw [if_pos hq, ev_up a1 (Nat.le_max_left _ _)]
  have e3 : ([thr] = [thr] ∧ hf1.1 = h.1) := ⟨rfl, h3⟩
  simp only [a2, thr] at e3 ⊢
  rw [if_pos e3]
  exact ev_up b1 (Nat.le_max_right _ _)
end
section
variable {u : Nat × Nat} {L : Nat} {xs : Nat → Int32} {X X' : Nat → Nat → Int32} {Z Z' : Nat → Nat → Int64} {Q : List Value → AH → Prop}
theorem set130 {v : Int64} : setC (hX u L xs X Z) 130 (.inl (.long, 1, .inr (.inl (vp_updL (Z 130) 0 v)))) = hX u L xs X (svL Z 130 0 v) := by
  unfold setC hX svL
  refine Prod.ext rfl (Prod.ext rfl ?_)
  funext a
  by_cases q : a = 130
  · subst q; rfl
  · show va_up (fun a => if a = 1000000 then .inl (.int, L, .inl xs) else shp a (X a) (Z a)) 130 _ a = (if a = 1000000 then .inl (.int, L, .inl xs) else shp a (X a) (va_up Z 130 _ a))
    rw [vu_ne q]
    simp only [va_up]
    rw [if_neg q]
theorem ZW_130 {v : Int64} (h : ZW Z) : ZW (svL Z 130 0 v) := fun w hw => by rw [svL_a (by decide)]; exact h w hw
theorem law_11 {i : Nat} {l5 l6 : Value} (hi : i + 6 < L) (hL : L < 2147483648) (hg : GI X) (hz : ZW Z) (hQ : ∀ u' X' Z' l5 l6, u' = u ∨ u' = (u.1 + 8, u.2 + 64) → GI X' → ZW Z' → WP 149 0 875 [.ref 1000000, .ref 0, .ref 97, .ref 130, .int (ic i), l5, l6] [] (hX u' L xs X' Z') Q) : WP 149 0 689 [.ref 1000000, .ref 0, .ref 97, .ref 130, .int (ic i), l5, l6] [] (hX u L xs X Z) Q := by
  have e1 : (i + 1 < L) = True := eq_true (by omega)
  have e2 : (i + 2 < L) = True := eq_true (by omega)
  have e130 : inB 0 1 = true := by decide
  simp (disch := first | assumption | omega) only [w_149_689, w_149_690, w_149_691, w_149_693, w_149_694, w_149_695, w_149_696, w_149_697, w_149_699, w_149_700, w_149_701, w_149_702, ic_add1, ip2, inB_ic, ic_clamp, e1, e2, true_and]
  have hq : catS [] ≤ 8 ∧ 130 < (hX u L xs X Z).2.1 ∧ recvOK 0 87 [.ref 0, .int (xs (i + 1)), .int (xs (i + 2))] (hX u L xs X Z) = true ∧ rk 87 0 + 1 < rk 149 0 := ⟨by decide, (show (130 : Nat) < 131 by decide), rfl, by decide +kernel⟩
  rcases op_look (u := u) (L := L) (xs := xs) (Z := Z) (r := xs (i + 1)) (q := xs (i + 2)) hg with ⟨c1, c2⟩ | ⟨v, c1, c2⟩
  · refine WP_wrap1 (k' := 87) (show decode (mCode 149) 703 = .ok (.invokestatic 77, 3) by decide +kernel) rfl rfl rfl rfl rfl hq c1 rfl ?_
    show WP 149 0 706 [.ref 1000000, .ref 0, .ref 97, .ref 130, .int (ic i), l5, l6] [.int 1] (hX (u.1 + 8, u.2 + 64) L xs X Z) Q
    simp (disch := first | assumption | omega) only [w_149_706, w_149_708, w_149_709, w_149_710, w_149_712, w_149_713, w_149_714, w_149_715, w_149_716, w_149_718, w_149_719, w_149_720, w_149_721, ic_add1, ip2, inB_ic, ic_clamp, e1, e2, true_and]
    refine WP_mono (fun rv h2 hh => ?_) (c2 (u.1 + 8, u.2 + 64) Z)
    obtain ⟨b, X', rfl, rfl, t, g⟩ := hh
    refine ⟨by simp [thr], ?_⟩
    rw [app1, w_149_724, w_149_726, w_149_727, m_thrown]
    refine ⟨by simp [thr], ?_⟩
    rw [app1, w_149_730, w_149_732, t, if_pos rfl, w_149_737, w_149_739, if_pos (by decide), w_149_754]
    exact hQ _ _ _ _ _ (Or.inr rfl) g hz
  · refine WP_wrap0 (k' := 87) (v := v) (h1 := hX u L xs X Z) (e := .inl (.long, 1, .inr (.inl (vp_updL (Z 130) 0 v.toInt64)))) (show decode (mCode 149) 703 = .ok (.invokestatic 77, 3) by decide +kernel) rfl rfl rfl rfl rfl hq c1 rfl ⟨(show (130 : Nat) < 131 by decide), rfl⟩ ?_
    rw [set130]
    show WP 149 0 706 [.ref 1000000, .ref 0, .ref 97, .ref 130, .int (ic i), l5, l6] [.int 0] (hX u L xs X (svL Z 130 0 v.toInt64)) Q
    simp (disch := first | assumption | omega) only [w_149_706, w_149_708, w_149_709, w_149_710, w_149_712, w_149_713, w_149_714, w_149_715, w_149_716, w_149_718, w_149_719, w_149_720, w_149_721, ic_add1, ip2, inB_ic, ic_clamp, e1, e2, true_and]
    refine WP_mono (fun rv h2 hh => ?_) (c2 u (svL Z 130 0 v.toInt64))
    obtain ⟨rfl, X', rfl, t, g⟩ := hh
    refine ⟨by simp [thr], ?_⟩
    rw [app1, w_149_724, w_149_726, w_149_727, m_thrown]
    refine ⟨by simp [thr], ?_⟩
    rw [app1, w_149_730, w_149_732, t, if_pos rfl, w_149_737, w_149_739, if_neg (by decide), w_149_742, w_149_743, w_149_744]
    refine ⟨e130, ?_⟩
    rw [w_149_745, w_149_747, w_149_748, w_149_749, show svL Z 130 0 v.toInt64 130 (Int32.toNatClampNeg 0) = v.toInt64 from svL_s, if_pos (by rw [cmp0]), w_149_754]
    exact hQ _ _ _ _ _ (Or.inl rfl) g (ZW_130 hz)
theorem law_12 {i : Nat} {l5 l6 : Value} (hi : i + 6 < L) (hL : L < 2147483648) (hg : GI X) (hz : ZW Z) (hQ : ∀ u' X' Z' l5 l6, u' = u ∨ u' = (u.1 + 8, u.2 + 64) → GI X' → ZW Z' → WP 149 0 875 [.ref 1000000, .ref 0, .ref 97, .ref 130, .int (ic i), l5, l6] [] (hX u' L xs X' Z') Q) : WP 149 0 757 [.ref 1000000, .ref 0, .ref 97, .ref 130, .int (ic i), l5, l6] [] (hX u L xs X Z) Q := by
  have e1 : (i + 1 < L) = True := eq_true (by omega)
  have e2 : (i + 2 < L) = True := eq_true (by omega)
  have e130 : inB 0 1 = true := by decide
  simp (disch := first | assumption | omega) only [w_149_757, w_149_758, w_149_759, w_149_761, w_149_762, w_149_763, w_149_764, w_149_765, w_149_767, w_149_768, w_149_769, w_149_770, ic_add1, ip2, inB_ic, ic_clamp, e1, e2, true_and]
  have hq : catS [] ≤ 8 ∧ 130 < (hX u L xs X Z).2.1 ∧ recvOK 0 88 [.ref 0, .int (xs (i + 1)), .int (xs (i + 2))] (hX u L xs X Z) = true ∧ rk 88 0 + 1 < rk 149 0 := ⟨by decide, (show (130 : Nat) < 131 by decide), rfl, by decide +kernel⟩
  rcases op_lies (u := u) (L := L) (xs := xs) (Z := Z) (r := xs (i + 1)) (q := xs (i + 2)) hg with ⟨c1, c2⟩ | ⟨v, c1, c2⟩
  · refine WP_wrap1 (k' := 88) (show decode (mCode 149) 771 = .ok (.invokestatic 86, 3) by decide +kernel) rfl rfl rfl rfl rfl hq c1 rfl ?_
    show WP 149 0 774 [.ref 1000000, .ref 0, .ref 97, .ref 130, .int (ic i), l5, l6] [.int 1] (hX (u.1 + 8, u.2 + 64) L xs X Z) Q
    simp (disch := first | assumption | omega) only [w_149_774, w_149_776, w_149_777, w_149_778, w_149_780, w_149_781, w_149_782, w_149_783, w_149_784, w_149_786, w_149_787, w_149_788, w_149_789, ic_add1, ip2, inB_ic, ic_clamp, e1, e2, true_and]
    refine WP_mono (fun rv h2 hh => ?_) (c2 (u.1 + 8, u.2 + 64) Z)
    obtain ⟨b, X', rfl, rfl, t, g⟩ := hh
    refine ⟨by simp [thr], ?_⟩
    rw [app1, w_149_792, w_149_794, w_149_795, m_thrown]
    refine ⟨by simp [thr], ?_⟩
    rw [app1, w_149_798, w_149_800, t, if_pos rfl, w_149_805, w_149_807, if_pos (by decide), w_149_822]
    exact hQ _ _ _ _ _ (Or.inr rfl) g hz
  · refine WP_wrap0 (k' := 88) (v := v) (h1 := hX u L xs X Z) (e := .inl (.long, 1, .inr (.inl (vp_updL (Z 130) 0 v.toInt64)))) (show decode (mCode 149) 771 = .ok (.invokestatic 86, 3) by decide +kernel) rfl rfl rfl rfl rfl hq c1 rfl ⟨(show (130 : Nat) < 131 by decide), rfl⟩ ?_
    rw [set130]
    show WP 149 0 774 [.ref 1000000, .ref 0, .ref 97, .ref 130, .int (ic i), l5, l6] [.int 0] (hX u L xs X (svL Z 130 0 v.toInt64)) Q
    simp (disch := first | assumption | omega) only [w_149_774, w_149_776, w_149_777, w_149_778, w_149_780, w_149_781, w_149_782, w_149_783, w_149_784, w_149_786, w_149_787, w_149_788, w_149_789, ic_add1, ip2, inB_ic, ic_clamp, e1, e2, true_and]
    refine WP_mono (fun rv h2 hh => ?_) (c2 u (svL Z 130 0 v.toInt64))
    obtain ⟨rfl, X', rfl, t, g⟩ := hh
    refine ⟨by simp [thr], ?_⟩
    rw [app1, w_149_792, w_149_794, w_149_795, m_thrown]
    refine ⟨by simp [thr], ?_⟩
    rw [app1, w_149_798, w_149_800, t, if_pos rfl, w_149_805, w_149_807, if_neg (by decide), w_149_810, w_149_811, w_149_812]
    refine ⟨e130, ?_⟩
    rw [w_149_813, w_149_815, w_149_816, w_149_817, show svL Z 130 0 v.toInt64 130 (Int32.toNatClampNeg 0) = v.toInt64 from svL_s, if_pos (by rw [cmp0]), w_149_822]
    exact hQ _ _ _ _ _ (Or.inl rfl) g (ZW_130 hz)
theorem an15 (x : Int32) : ∃ m, m < 16 ∧ x &&& 15 = ic m := by
  refine ⟨x.toBitVec.toNat % 16, by omega, ?_⟩
  unfold ic
  apply Int32.toBitVec_inj.1
  apply BitVec.eq_of_toNat_eq
  rw [Int32.toBitVec_and, BitVec.toNat_and]
  simp
  rw [show 15 = 2^4 - 1 by rfl, Nat.and_two_pow_sub_one_eq_mod]
  omega
theorem law_loop (hL : L ≤ 3584) : ∀ d i u X Z l5 l6, L < i + 7 * (d + 1) → i ≤ L → GI X → ZW Z → (∀ u' X' Z', u'.1 ≤ u.1 + 8 * d → u'.2 ≤ u.2 + 64 * d → Q [.int 1] (hX u' L xs X' Z')) → WP 149 0 23 [.ref 1000000, .ref 0, .ref 97, .ref 130, .int (ic i), l5, l6] [] (hX u L xs X Z) Q := by
  intro d
  induction d with
  | zero =>
    intro i u X Z l5 l6 hd hi hg hz hQ
    have c : Int32.ofNat L - 7 < ic i := by
      by_cases q : 7 ≤ L
      · rw [show Int32.ofNat L = ic L from rfl, show (7 : Int32) = ic 7 from rfl, ic_subN q, ic_lt (by omega) (by omega)]
        omega
      · have : ∀ l : Fin 7, Int32.ofNat l.1 - 7 < 0 := by decide +kernel
        have h7 : Int32.ofNat L - 7 < 0 := this ⟨L, by omega⟩
        rw [Int32.lt_iff_toInt_lt] at h7 ⊢
        rw [ic_toInt (by omega)]
        have e0 : (0 : Int32).toInt = 0 := rfl
        omega
    rw [w_149_23, w_149_25, w_149_26, w_149_27, w_149_29, w_149_30, if_pos c, w_149_881, w_149_882]
    exact ⟨by decide, hQ u X Z (by omega) (by omega)⟩
  | succ d ih =>
    intro i u X Z l5 l6 hd hi hg hz hQ
    rw [w_149_23, w_149_25, w_149_26, w_149_27, w_149_29, w_149_30]
    by_cases c : L < i + 7
    · have c' : Int32.ofNat L - 7 < ic i := by
        by_cases q : 7 ≤ L
        · rw [show Int32.ofNat L = ic L from rfl, show (7 : Int32) = ic 7 from rfl, ic_subN q, ic_lt (by omega) (by omega)]
          omega
        · have : ∀ l : Fin 7, Int32.ofNat l.1 - 7 < 0 := by decide +kernel
          have h7 : Int32.ofNat L - 7 < 0 := this ⟨L, by omega⟩
          rw [Int32.lt_iff_toInt_lt] at h7 ⊢
          rw [ic_toInt (by omega)]
          have e0 : (0 : Int32).toInt = 0 := rfl
          omega
      rw [if_pos c', w_149_881, w_149_882]
      exact ⟨by decide, hQ u X Z (by omega) (by omega)⟩
    · have c' : ¬ (Int32.ofNat L - 7 < ic i) := by
        rw [show Int32.ofNat L = ic L from rfl, show (7 : Int32) = ic 7 from rfl, ic_subN (by omega), ic_lt (by omega) (by omega)]
        omega
      have eI : inB (ic i) L = true := by rw [inB_ic (by omega)]; omega
      -- behind a call
      have nxt : ∀ u' X' Z' l5 l6, u' = u ∨ u' = (u.1 + 8, u.2 + 64) → GI X' → ZW Z' → WP 149 0 875 [.ref 1000000, .ref 0, .ref 97, .ref 130, .int (ic i), l5, l6] [] (hX u' L xs X' Z') Q := by
        intro u' X' Z' l5 l6 hu g z
        rw [w_149_875, w_149_878, show ic i + 7 = ic (i + 7) from ic_add (b := 7)]
        refine ih (i + 7) u' X' Z' l5 l6 (by omega) (by omega) g z (fun u2 X2 Z2 b1 b2 => hQ u2 X2 Z2 ?_ ?_)
        · rcases hu with rfl | rfl
          · omega
          · simp only at b1; omega
        · rcases hu with rfl | rfl
          · omega
          · simp only at b2; omega
      have nx0 : ∀ X' Z', GI X' → ZW Z' → WP 149 0 875 [.ref 1000000, .ref 0, .ref 97, .ref 130, .int (ic i), l5, l6] [] (hX u L xs X' Z') Q := fun X' Z' g z => nxt u X' Z' l5 l6 (Or.inl rfl) g z
      have h6 : i + 6 < L := by omega
      have hL2 : L < 2147483648 := by omega
      rw [if_neg c', w_149_33, w_149_34, w_149_36, ic_clamp (by omega)]
      refine ⟨eI, ?_⟩
      rw [w_149_37, w_149_39]
      obtain ⟨m, hm, em⟩ := an15 (xs i)
      rw [em]
      rcases (show m = 0 ∨ m = 1 ∨ m = 2 ∨ m = 3 ∨ m = 4 ∨ m = 5 ∨ m = 6 ∨ m = 7 ∨ m = 8 ∨ m = 9 ∨ m = 10 ∨ m = 11 ∨ m = 12 ∨ m = 13 ∨ m = 14 ∨ m = 15 by omega) with q | q | q | q | q | q | q | q | q | q | q | q | q | q | q | q <;> subst q
      · refine (w_149_40_c0).2 ?_
        exact law_0 h6 hL2 hg hz nx0
      · refine (w_149_40_c1).2 ?_
        exact law_1 h6 hL2 hg hz nx0
      · refine (w_149_40_c2).2 ?_
        exact law_2 h6 hL2 hg hz nx0
      · refine (w_149_40_c3).2 ?_
        exact law_3 h6 hL2 hg hz nx0
      · refine (w_149_40_c4).2 ?_
        exact law_4 h6 hL2 hg hz nx0
      · refine (w_149_40_c5).2 ?_
        exact law_5 h6 hL2 hg hz nx0
      · refine (w_149_40_c6).2 ?_
        exact law_6 h6 hL2 hg hz nx0
      · refine (w_149_40_c7).2 ?_
        exact law_7 h6 hL2 hg hz nx0
      · refine (w_149_40_c8).2 ?_
        exact law_8 h6 hL2 hg hz nx0
      · refine (w_149_40_c9).2 ?_
        exact law_9 h6 hL2 hg hz nx0
      · refine (w_149_40_c10).2 ?_
        exact law_10 h6 hL2 hg hz nx0
      · refine (w_149_40_c11).2 ?_
        exact law_11 h6 hL2 hg hz nxt
      · refine (w_149_40_c12).2 ?_
        exact law_12 h6 hL2 hg hz nxt
      · refine (w_149_40_c13).2 ?_
        exact law_13 h6 hL2 hg hz nx0
      · refine (w_149_40_c14).2 ?_
        exact law_14 h6 hL2 hg hz nx0
      · refine (w_149_40_df (by decide)).2 ?_
        exact nx0 X Z hg hz
theorem law_ok (hL : L ≤ 3584) : Call 149 [.ref 1000000] ((0, 0), 0, F00 L xs) (fun rv h => rv = [.int 1] ∧ h.1.1 ≤ 4227 ∧ h.1.2 ≤ 49457) := by
  refine law_start (fun f g hf hg => ?_)
  rw [show (0 : Int32) = ic 0 from rfl]
  refine law_loop hL 512 0 _ _ _ _ _ (by omega) (by omega) (GI_0 hf hg) ZW_0 (fun u' X' Z' b1 b2 => ⟨rfl, ?_, ?_⟩)
  · show u'.1 ≤ 4227
    simp only at b1
    omega
  · show u'.2 ≤ 49457
    simp only at b2
    omega
end
