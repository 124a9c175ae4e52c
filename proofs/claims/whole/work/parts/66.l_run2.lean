/-! THE SIMPLE CALLS, OF BOTH SIDES: run, of the model -/
section
variable {u : Nat × Nat} {L : Nat} {xs : Nat → Int32} {X X' : Nat → Nat → Int32} {Z : Nat → Nat → Int64} {K : List Value → AH → Prop} {V W : Nat → Nat → Int32}
theorem m_run_no {n np nw : Nat} {up mi se ro : Int32} (r1 : X 97 10 = X 1 0) (hp : X 1 0 = ic np) (h1 : 1 ≤ np) (h10 : np ≤ 10) (hm : MR X V) (hn : V 1 0 = ic n) (h12 : n ≤ 12) (hw : V 0 5 = ic nw) (hw6 : nw ≤ 600) (h : rnB X V mi se ro = false) : Call 112 [.ref 97, .int up, .int mi, .int se, .int ro] (hX u L xs X Z) K ↔ K [.int (-1)] (hX u L xs (sv X 97 0 0) Z) := by
  have q1 : (sv X 97 0 0) 97 10 = ic np := by rw [sv_i (by decide), r1]; exact hp
  have q2 : (sv X 97 0 0) 97 13 = ic n := by rw [sv_i (by decide), hm.2.1]; exact hn
  have q3 : (sv X 97 0 0) 97 23 = ic nw := by rw [sv_i (by decide), hm.1]; exact hw
  unfold rnB moB at h
  rw [hp, hn, hw] at h
  simp only [en_112, w_112_0, w_112_1, w_112_2, w_112_5, w_112_6, w_112_9, w_112_10, w_112_13, w_112_14, w_112_15, w_112_18, w_112_21, w_112_22, w_112_23, w_112_26, w_112_27, w_112_30, w_112_33, w_112_34, w_112_35, w_112_38, w_112_39, w_112_41, w_112_44, w_112_46, w_112_49, w_112_51, w_112_53, w_112_56, w_112_57, w_112_60, w_112_62, w_112_65, w_112_66, w_112_68, w_112_71, w_112_72, w_112_75, w_112_76, w_112_77, w_112_78, w_112_81, w_112_82, w_112_85, w_112_86, w_112_87, w_112_88, w_112_91, w_112_92, w_112_95, w_112_96, w_112_97, w_112_98, w_112_101, w_112_102, w_112_105, w_112_107, w_112_108, w_112_109, w_112_112, w_112_113, w_112_114, w_112_117, w_112_118, w_112_119, w_112_120, w_112_121, w_112_124, w_112_126, w_112_127, w_112_130, w_112_131, w_112_132, w_112_133, w_112_134, w_112_135, w_112_138, w_112_139, w_112_140, w_112_143, w_112_144, w_112_147, w_112_148, w_112_149, sv_d, q1, q2, q3, nle]
  by_cases c1 : ic np = 1
  · simp only [c1, if_true]
  · have c1' : ¬ ic np < 2 := by
      rw [show (1 : Int32) = ic 1 from rfl, ic_eq (by omega) (by omega)] at c1
      rw [show (2 : Int32) = ic 2 from rfl, ic_lt (by omega) (by omega)]
      omega
    by_cases c2 : ic nw < mi
    · by_cases c2' : mi < 1
      · simp only [c1, c2, c2', if_false, if_true, not_true_eq_false]
      · by_cases c3 : 400 < mi
        · simp only [c1, c2, c2', c3, if_false, if_true, not_true_eq_false]
        · by_cases c4 : se < 1
          · simp only [c1, c2, c2', c3, c4, if_false, if_true, not_true_eq_false]
          · by_cases c5 : 40 < se
            · simp only [c1, c2, c2', c3, c4, c5, if_false, if_true, not_true_eq_false]
            · by_cases c6 : ro < 0
              · simp only [c1, c2, c2', c3, c4, c5, c6, if_false, if_true, not_true_eq_false]
              · by_cases c7 : 40 < ro
                · simp only [c1, c2, c2', c3, c4, c5, c6, c7, if_false, if_true, not_true_eq_false]
                · have c8 : ic n = 12 := by
                    rw [decide_eq_true c1', decide_eq_true (show ic nw < mi ∧ ¬ 400 < mi from ⟨c2, c3⟩), decide_eq_true (show ¬ se < 1 ∧ ¬ 40 < se from ⟨c4, c5⟩), decide_eq_true (show ¬ ro < 0 ∧ ¬ 40 < ro from ⟨c6, c7⟩)] at h
                    simp only [Bool.true_and, Bool.and_true, decide_eq_false_iff_not] at h
                    rw [show (12 : Int32) = ic 12 from rfl, ic_lt (by omega) (by omega)] at h
                    rw [show (12 : Int32) = ic 12 from rfl, show n = 12 by omega]
                  simp only [c1, c2, c2', c3, c4, c5, c6, c7, c8, if_false, not_true_eq_false]
    · simp only [c1, c2, if_false, if_true, not_false_eq_true]
theorem MR_n13 {v : Int32} (h : MR X V) : MR (sv X 97 13 v) (sv V 1 0 v) := by
  obtain ⟨h1, h2, h3, h4⟩ := h
  refine ⟨by rw [sv_i (by decide), sv_a (by decide)]; exact h1, by rw [sv_s, sv_s], by rw [sv_i (by decide), sv_a (by decide)]; exact h3, fun b j hj => ?_⟩
  have n0 : b ≠ 1 := by rintro rfl; exact absurd hj (Nat.not_lt_zero _)
  rw [sv_a (mcl_lt hj).1, sv_a n0]
  exact h4 b j hj
def arX (X : Nat → Nat → Int32) (n : Nat) (up mi se ro : Int32) : Nat → Nat → Int32 := sv (sv (sv (sv (sv (sv (sv X 105 n up) 106 n mi) 107 n se) 108 n ro) 113 n 0) 113 (12 + n) (-1)) 97 13 (ic (n + 1))
theorem arX_MR {n : Nat} {up mi se ro : Int32} (h12 : n < 12) (h : MR X V) : MR (arX X n up mi se ro) (adR V n up mi se ro) := by
  have g1 := MR_upc (a := 2) (i := n) (v := up) h h12
  have g2 := MR_upc (a := 5) (i := n) (v := mi) g1 h12
  have g3 := MR_upc (a := 3) (i := n) (v := se) g2 h12
  have g4 := MR_upc (a := 4) (i := n) (v := ro) g3 h12
  simp only [show mof 2 = 0 from rfl, show mof 3 = 0 from rfl, show mof 4 = 0 from rfl, show mof 5 = 0 from rfl, Nat.zero_add, show mcl 2 = 105 from rfl, show mcl 3 = 107 from rfl, show mcl 4 = 108 from rfl, show mcl 5 = 106 from rfl] at g4
  exact MR_n13 (u7 (u6 g4 h12) h12)
theorem sv_9713 {a i : Nat} {v : Int32} (h : 97 ≠ a) : sv V a i v 97 13 = V 97 13 := by rw [sv_a h]
theorem m_run {n np nw : Nat} {up mi se ro : Int32} (hu : up = 0 ∨ up = 1) (r1 : X 97 10 = ic np) (h2 : 2 ≤ np) (h10 : np ≤ 10) (q13 : X 97 13 = ic n) (h12 : n < 12) (q23 : X 97 23 = ic nw) (hw6 : nw ≤ 600) (c2 : ic nw < mi) (c3 : ¬ 400 < mi) (c4 : ¬ se < 1 ∧ ¬ 40 < se) (c6 : ¬ ro < 0 ∧ ¬ 40 < ro) : Call 112 [.ref 97, .int up, .int mi, .int se, .int ro] (hX u L xs X Z) K ↔ K [.int (ic n)] (hX u L xs (arX (sv X 97 0 0) n up mi se ro) Z) := by
  have q1 : (sv X 97 0 0) 97 10 = ic np := by rw [sv_i (by decide)]; exact r1
  have q2 : (sv X 97 0 0) 97 13 = ic n := by rw [sv_i (by decide)]; exact q13
  have q3 : (sv X 97 0 0) 97 23 = ic nw := by rw [sv_i (by decide)]; exact q23
  have c1 : (ic np = 1) = False := by rw [show (1 : Int32) = ic 1 from rfl, ic_eq (by omega) (by omega)]; exact eq_false (by omega)
  have c2' : (mi ≤ ic nw) = False := by rw [nle]; simpa using c2
  have c2'' : ¬ mi < 1 := by
    intro z
    have h0 : ¬ mi < 0 := fun q => by have := Int32.lt_trans c2 q; rw [ic_neg (by omega)] at this; exact this
    obtain ⟨w1, w2⟩ := ic_of h0
    rw [w1, ic_lt (by omega) w2] at c2
    rw [w1, show (1 : Int32) = ic 1 from rfl, ic_lt w2 (by omega)] at z
    omega
  have e12 : (n < 12) = True := eq_true h12
  have e0 : (n < 392) = True := eq_true (by omega)
  have e1 : (12 + n < 392) = True := eq_true (by omega)
  have c8 : (n = 12) = False := eq_false (by omega)
  have pn : vp_nar .boolean up = up := by rcases hu with rfl | rfl <;> rfl
  have x4 : ∀ Y : Nat → Nat → Int32, (sv Y 97 13 (ic (n + 1))) 97 13 = ic (n + 1) := fun Y => sv_s
  have s1 : ic (n + 1) - 1 = ic n := by rw [ic_pred (by omega)]; rfl
  have d1 := c4.1
  have d2 := c4.2
  have d3 := c6.1
  have d4 := c6.2
  simp (disch := first | assumption | omega) only [en_112, w_112_0, w_112_1, w_112_2, w_112_6, w_112_9, w_112_10, w_112_13, w_112_14, w_112_15, w_112_18, w_112_21, w_112_22, w_112_23, w_112_26, w_112_27, w_112_30, w_112_33, w_112_34, w_112_35, w_112_38, w_112_39, w_112_41, w_112_44, w_112_46, w_112_49, w_112_51, w_112_53, w_112_56, w_112_57, w_112_60, w_112_62, w_112_65, w_112_66, w_112_67, w_112_68, w_112_71, w_112_72, w_112_75, w_112_76, w_112_77, w_112_78, w_112_81, w_112_82, w_112_85, w_112_86, w_112_87, w_112_88, w_112_91, w_112_92, w_112_95, w_112_96, w_112_97, w_112_98, w_112_101, w_112_102, w_112_105, w_112_107, w_112_108, w_112_109, w_112_112, w_112_113, w_112_114, w_112_117, w_112_118, w_112_119, w_112_120, w_112_121, w_112_124, w_112_126, w_112_127, w_112_130, w_112_131, w_112_132, w_112_133, w_112_134, w_112_135, w_112_138, w_112_139, w_112_140, w_112_143, w_112_144, w_112_147, w_112_148, w_112_149, sv_d]
  generalize sv X 97 0 0 = X0 at q1 q2 q3 ⊢
  simp (disch := first | assumption | omega | decide) only [en_112, w_112_0, w_112_1, w_112_2, w_112_5, w_112_6, w_112_9, w_112_10, w_112_13, w_112_14, w_112_15, w_112_18, w_112_21, w_112_22, w_112_23, w_112_26, w_112_27, w_112_30, w_112_33, w_112_34, w_112_35, w_112_38, w_112_39, w_112_41, w_112_44, w_112_46, w_112_49, w_112_51, w_112_53, w_112_56, w_112_57, w_112_60, w_112_62, w_112_65, w_112_66, w_112_67, w_112_68, w_112_71, w_112_72, w_112_75, w_112_76, w_112_77, w_112_78, w_112_81, w_112_82, w_112_85, w_112_86, w_112_87, w_112_88, w_112_91, w_112_92, w_112_95, w_112_96, w_112_97, w_112_98, w_112_101, w_112_102, w_112_105, w_112_107, w_112_108, w_112_109, w_112_112, w_112_113, w_112_114, w_112_117, w_112_118, w_112_119, w_112_120, w_112_121, w_112_124, w_112_126, w_112_127, w_112_130, w_112_131, w_112_132, w_112_133, w_112_134, w_112_135, w_112_138, w_112_139, w_112_140, w_112_143, w_112_144, w_112_147, w_112_148, w_112_149, q1, q2, q3, c1, c2', c2'', c3, d1, d2, d3, d4, if_false, show (12 : Int32) = ic 12 from rfl, ic_eq, c8, not_false_eq_true, if_true, a0, ic_add, inB_ic, ic_clamp, e12, e0, e1, true_and, sv_d, pn, sv_9713, ic_add1, x4, s1, arX]
theorem op_run {up mi se ro : Int32} (hu : up = 0 ∨ up = 1) (hg : GI X) : Two u L xs 77 112 [.ref 0, .int up, .int mi, .int se, .int ro] [.ref 97, .int up, .int mi, .int se, .int ro] X Z := by
  have hg' := hg
  obtain ⟨⟨hs, hm, hw, hb, hf, nw, hn6, hn⟩, h46, htp⟩ := hg
  have r1 := hs.2.1.1
  have hp := hs.1.1
  have hp1 := hs.1.2.1
  have hp10 := hs.1.2.2.1
  have v1 := hw.1.1
  have v12 := hw.1.2.1
  unfold Two
  by_cases c : rnB X (wz X 25) mi se ro = true
  · have c' := c
    unfold rnB moB at c'
    simp only [Bool.and_eq_true, decide_eq_true_eq] at c'
    obtain ⟨⟨⟨⟨c1, c2, c2'⟩, c3⟩, c4⟩, c5⟩ := c'
    rw [hn] at c2
    rw [v1, show (12 : Int32) = ic 12 from rfl, ic_lt (by omega) (by omega)] at c3
    rw [hp, show (2 : Int32) = ic 2 from rfl, ic_lt (by omega) (by omega)] at c1
    rw [c_run hu v1 c3 c]
    refine ⟨_, _, rfl, rfl, ?_⟩
    have hpw : ∀ a, a < 25 ∨ 49 ≤ a → (pw X 25 (adR (wz X 25) (nrN (wz X 25)) up mi se ro)) a = X a := fun a ha => pw_Fw (by omega)
    have wp : wz (pw X 25 (adR (wz X 25) (nrN (wz X 25)) up mi se ro)) 25 = adR (wz X 25) (nrN (wz X 25)) up mi se ro := wz_pw (fun a ha => by rw [adR_ne (by omega) (by omega) (by omega) (by omega) (by omega) (by omega) (by omega)]; exact wz_hi ha)
    generalize pw X 25 (adR (wz X 25) (nrN (wz X 25)) up mi se ro) = X1 at hpw wp
    have m1 : MR X1 (wz X 25) := MR_hi (fun a ha => hpw a (by omega)) hm
    rw [m_run (np := npN X) (nw := nw) hu (by rw [hpw 97 (by decide), r1]; exact hp) (by omega) hp10 (by rw [m1.2.1]; exact v1) c3 (by rw [m1.1]; exact hn) hn6 c2 c2' c4 c5]
    refine ⟨rfl, _, Z, rfl, rfl, ?_⟩
    have m2 := arX_MR (up := up) (mi := mi) (se := se) (ro := ro) c3 (MR_thr (v := 0) m1)
    generalize hY : arX (sv X1 97 0 0) (nrN (wz X 25)) up mi se ro = Y at m2
    have ca : ∀ a, a ≠ 97 → a ≠ 105 → a ≠ 106 → a ≠ 107 → a ≠ 108 → a ≠ 113 → Y a = X1 a := fun a h1 h2 h3 h4 h5 h6 => by rw [← hY]; unfold arX; rw [sv_a h1, sv_a h6, sv_a h6, sv_a h5, sv_a h4, sv_a h3, sv_a h2, sv_a h1]
    have c97 : ∀ j, j ≠ 0 → j ≠ 13 → Y 97 j = X1 97 j := fun j h0 h13 => by rw [← hY]; unfold arX; rw [sv_i h13, sv_a (by decide), sv_a (by decide), sv_a (by decide), sv_a (by decide), sv_a (by decide), sv_a (by decide), sv_i h0]
    have w25 : wz Y 25 = adR (wz X 25) (nrN (wz X 25)) up mi se ro := by
      rw [← wp]
      exact wz_of (fun a h1 h2 => ca a (by omega) (by omega) (by omega) (by omega) (by omega) (by omega))
    have lo : Lo X Y := fun a ha => by rw [ca a (by omega) (by omega) (by omega) (by omega) (by omega) (by omega)]; exact hpw a (by omega)
    obtain ⟨sY, npY⟩ := SI_sm lo (by rw [c97 10 (by decide) (by decide), hpw 97 (by decide)]) (by rw [c97 28 (by decide) (by decide), hpw 97 (by decide)]) (by rw [c97 38 (by decide) (by decide), hpw 97 (by decide)]) (fun a ha => by rw [ca a (by omega) (by omega) (by omega) (by omega) (by omega) (by omega)]; exact hpw a (by omega)) hs
    refine ⟨⟨sY, by rw [w25]; exact m2, by rw [w25, npY]; exact adR_WI rfl c3 (by omega) hw, fun i hi => ?_, by rw [w25]; exact FL_of (adR_ne (by decide) (by decide) (by decide) (by decide) (by decide) (by decide) (by decide)) (adR_ne (by decide) (by decide) (by decide) (by decide) (by decide) (by decide) (by decide)) hf, nw, hn6, by rw [w25, adR_ne (by decide) (by decide) (by decide) (by decide) (by decide) (by decide) (by decide)]; exact hn⟩, ?_, ?_⟩
    · rw [w25]
      by_cases e : i = nrN (wz X 25)
      · have : adR (wz X 25) (nrN (wz X 25)) up mi se ro 2 i = up := by
          unfold adR
          rw [sv_a (by decide), sv_a (by decide), sv_a (by decide), sv_a (by decide), sv_a (by decide), sv_a (by decide), e, sv_s]
        rw [this]; exact hu
      · rw [adR_o (by decide) e]; exact hb i hi
    · rw [c97 46 (by decide) (by decide), hpw 97 (by decide), ca 0 (by decide) (by decide) (by decide) (by decide) (by decide) (by decide), hpw 0 (by decide)]; exact h46
    · exact TP_of (by rw [c97 2 (by decide) (by decide), hpw 97 (by decide)]) (by rw [ca 9 (by decide) (by decide) (by decide) (by decide) (by decide) (by decide), hpw 9 (by decide)]) (by rw [ca 10 (by decide) (by decide) (by decide) (by decide) (by decide) (by decide), hpw 10 (by decide)]) (by rw [ca 98 (by decide) (by decide) (by decide) (by decide) (by decide) (by decide), hpw 98 (by decide)]) htp
  · have c' : rnB X (wz X 25) mi se ro = false := by simpa using c
    rw [c_run_no c']
    refine ⟨_, _, rfl, rfl, ?_⟩
    rw [m_run_no r1 hp hp1 hp10 hm v1 v12 hn hn6 c']
    exact ⟨rfl, _, Z, rfl, rfl, GI_thr hg'⟩
end
