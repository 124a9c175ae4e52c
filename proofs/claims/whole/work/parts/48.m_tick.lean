/-! THE MODEL'S WORLD: a minute -/
section
variable {u : Nat × Nat} {L : Nat} {xs : Nat → Int32} {X : Nat → Nat → Int32} {Z : Nat → Nat → Int64} {K : List Value → AH → Prop} {V : Nat → Nat → Int32}
theorem Fr_TX {X' : Nat → Nat → Int32} (h : Fr X X') (g : TX X) : TX X' := by
  have lo := Fr_Lo h
  have ek : kdF X' = kdF X := by funext i; unfold kdF; rw [lo 15 (by decide)]
  have en : nuF X' = nuF X := by funext i; unfold nuF; rw [lo 15 (by decide)]
  unfold TX cdOK dpOK at g ⊢
  rw [lo_ln lo, lo_st lo, lo_en lo, ek, en, h.2 38 (by decide), lo 11 (by decide), lo 12 (by decide), lo 13 (by decide), h.1 120 (by decide) (by decide) (by decide), h.1 121 (by decide) (by decide) (by decide), h.1 122 (by decide) (by decide) (by decide), h.1 123 (by decide) (by decide) (by decide), h.1 124 (by decide) (by decide) (by decide), h.1 125 (by decide) (by decide) (by decide)]
  exact g
/-- road and rules of both sides in order -/
def SI (X : Nat → Nat → Int32) : Prop := RdOK X ∧ RR X ∧ TX X
/-- a world in order -/
def WI (np : Nat) (V : Nat → Nat → Int32) : Prop := VOK V ∧ VI np V ∧ LI V ∧ CI V
theorem Fr_SI {X' : Nat → Nat → Int32} (h : Fr X X') (g : SI X) : SI X' ∧ npN X' = npN X := ⟨⟨by rw [lo_Rd (Fr_Lo h)]; exact g.1, Fr_RR h g.2.1, Fr_TX h g.2.2⟩, lo_np (Fr_Lo h)⟩
theorem tk_WI {np r d : Nat} {per : Int32} (hr : r < 12) (h : WI np V) : WI np (tkF r per d V) := by
  have t := fun a h1 h2 h3 h4 h5 h6 => tkF_ne (r := r) (per := per) (a := a) h1 h2 h3 h4 h5 h6 d V
  refine ⟨VOK_of (t 1 (by decide) (by decide) (by decide) (by decide) (by decide) (by decide)) (t 14 (by decide) (by decide) (by decide) (by decide) (by decide) (by decide)) h.1, VI_eq (t 1 (by decide) (by decide) (by decide) (by decide) (by decide) (by decide)) (t 2 (by decide) (by decide) (by decide) (by decide) (by decide) (by decide)) (t 6 (by decide) (by decide) (by decide) (by decide) (by decide) (by decide)) (t 7 (by decide) (by decide) (by decide) (by decide) (by decide) (by decide)) (t 8 (by decide) (by decide) (by decide) (by decide) (by decide) (by decide)) h.2.1, LI_of (t 14 (by decide) (by decide) (by decide) (by decide) (by decide) (by decide)) (t 16 (by decide) (by decide) (by decide) (by decide) (by decide) (by decide)) (t 17 (by decide) (by decide) (by decide) (by decide) (by decide) (by decide)) h.2.2.1, CI_tk hr d V h.2.2.2⟩
theorem sv_comm {a b i j : Nat} {v y : Int32} (h : a ≠ b) : sv (sv V a i v) b j y = sv (sv V b j y) a i v := by
  funext c k
  simp only [sv_at]
  by_cases e1 : c = a
  · subst e1
    simp [h]
  · simp [e1]
theorem lea_MR {X' W : Nat → Nat → Int32} {r : Nat} {m : Int32} (hr : r < 12) (hm : MR X' W) : MR (sv (sv (sv X' 113 r 2) 113 (24 + r) m) 113 (36 + r) 0) (leaF W r m) := by
  have e : leaF W r m = sv (sv (sv W 6 r 2) 8 r m) 13 r 0 := by unfold leaF; exact sv_comm (by decide)
  rw [e]
  exact u13 (u8 (u6 hm hr) hr) hr
set_option maxRecDepth 8000 in
theorem m_stands {r : Nat} (hs : SI X) (hm : MR X V) (hw : WI (npN X) V) (hr : r < nrN V) (h1 : V 6 r = 1) (hK : ∀ X', MR X' (lifF X (takF V r) r) → Fr X X' → K [] (hX u L xs X' Z)) : Call 138 [.ref 97, .int (ic r)] (hX u L xs X Z) K := by
  have hr12 : r < 12 := by have := hw.1.2.1; omega
  have er : (r < 12) = True := eq_true hr12
  have e12 : (12 + r < 392) = True := eq_true (by omega)
  have e24 : (24 + r < 392) = True := eq_true (by omega)
  have e36 : (36 + r < 392) = True := eq_true (by omega)
  have e0 : (r < 392) = True := eq_true (by omega)
  rw [en_138, w_138_0, w_138_1, w_138_2, w_138_3]
  refine m_takesIn hr12 (Or.inr rfl) hm hw.1 hw.2.2.1 hw.2.2.2 (fun X1 hm1 hf1 => ?_)
  rw [if_neg (show ¬ (1 : Int32) = 0 by decide)] at hm1
  simp only [ne_thr0, app0, true_and]
  have hw1 := tk_WI (d := (V 3 r - V 9 r).toNatClampNeg) (per := 1) hr12 hw
  generalize hV1 : tkF r 1 (V 3 r - V 9 r).toNatClampNeg V = V1 at hm1 hw1
  rw [w_138_6, w_138_7, w_138_8, w_138_9]
  refine m_takesIn hr12 (Or.inl rfl) hm1 hw1.1 hw1.2.2.1 hw1.2.2.2 (fun X2 hm2 hf2 => ?_)
  rw [if_pos rfl] at hm2
  simp only [ne_thr0, app0, true_and]
  have hw2 := tk_WI (d := (V1 4 r - V1 10 r).toNatClampNeg) (per := 0) hr12 hw1
  have et : tkF r 0 (V1 4 r - V1 10 r).toNatClampNeg V1 = takF V r := by rw [← hV1]; rfl
  rw [et] at hm2 hw2
  have h12 : takF V r 6 = V 6 := takF_ne (by decide) (by decide) (by decide) (by decide) (by decide) (by decide)
  have hn2 : nrN (takF V r) = nrN V := by unfold nrN; rw [takF_ne (by decide) (by decide) (by decide) (by decide) (by decide) (by decide)]
  have h61 : takF V r 6 r = 1 := by rw [h12]; exact h1
  generalize takF V r = W at hm2 hw2 hK h61 hn2
  clear hV1 h12 et
  have hf := Fr_tr hf1 hf2
  obtain ⟨hs2, np2⟩ := Fr_SI hf hs
  obtain ⟨hx, hrr, htx⟩ := hs2
  rw [← np2] at hw2
  obtain ⟨sn, hstr, hsn⟩ := st_str (hw2.2.1.2.1 r hr12) h61 hx.2.2.1
  obtain ⟨a1, a2, _⟩ := (hw2.2.1.2.1 r hr12).1 (Or.inl h61)
  have h10 := hx.2.2.1
  have lo := Fr_Lo hf
  rw [← lo_lif lo] at hK
  have esn : (strF W r).toNatClampNeg = sn := by rw [hstr, ic_clamp (by omega)]
  have h23 := hm2.1
  -- what the class does
  have hcl : lifF X2 W r = if ¬ W 13 r < W 0 5 ∨ exB (shuB X2 (ic sn) (W 0 5)) 0 (nsN X2) = true then W else if frB X2 W r sn (npN X2) (nrN W) = true then (if (helF X2 r (pN W r) (npN X2) (nrN W) 0 (lnN X2) W).1 = true then (helF X2 r (pN W r) (npN X2) (nrN W) 0 (lnN X2) W).2 else leaF (helF X2 r (pN W r) (npN X2) (nrN W) 0 (lnN X2) W).2 r (X2 2 sn)) else W := by
    unfold lifF
    rw [esn, hstr]
    have : (¬ (¬ ic sn < 0 ∧ ¬ X2 1 0 - 1 ≤ ic sn)) = False := by
      rw [hx.1, ic_pred hx.2.1, ic_neg (by omega), ic_le (by omega) (by omega)]
      simp
      omega
    simp only [this, false_or]
  rw [hcl] at hK
  have key : WP 138 0 39 [.ref 97, .int (ic r), .int (ic (pN W r)), .int (ic sn)] [] (hX u L xs X2 Z) K := by
    simp (disch := first | assumption | omega) only [en_138, w_138_0, w_138_1, w_138_2, w_138_3, w_138_6, w_138_7, w_138_8, w_138_9, w_138_12, w_138_13, w_138_16, w_138_18, w_138_19, w_138_20, w_138_21, w_138_22, w_138_23, w_138_26, w_138_27, w_138_28, w_138_31, w_138_32, w_138_35, w_138_36, w_138_37, w_138_38, w_138_39, w_138_40, w_138_43, w_138_45, w_138_46, w_138_47, w_138_48, w_138_49, w_138_52, w_138_56, w_138_57, w_138_60, w_138_63, w_138_64, w_138_65, w_138_68, w_138_71, w_138_72, w_138_73, w_138_76, w_138_79, w_138_80, w_138_83, w_138_84, w_138_85, w_138_86, w_138_87, w_138_88, w_138_89, w_138_92, w_138_94, w_138_95, w_138_96, w_138_97, w_138_100, w_138_101, w_138_102, w_138_103, w_138_104, w_138_107, w_138_109, w_138_110, w_138_111, w_138_112, w_138_113, a0, a12, a24, a36, a48, a60, a72, a152, a232, a312, ic_clamp, inB_ic, e36, true_and, m13 hm2, h23]
    by_cases c1 : W 13 r < W 0 5
    · have c1' : ¬ W 0 5 ≤ W 13 r := by rw [nle]; simpa using c1
      rw [if_neg c1', w_138_55, w_138_56, w_138_57]
      refine m_isHeld hx hrr htx hm2 hw2.1 hw2.2.2.2 hr12 a1 a2 (fun P' => ?_)
      simp only [ne_thr, app1, true_and]
      have hf3 : Fr X2 (px X2 P') := px_Fr
      have lo3 := Fr_Lo hf3
      obtain ⟨⟨hx3, hrr3, _⟩, np3⟩ := Fr_SI hf3 ⟨hx, hrr, htx⟩
      have hm3 : MR (px X2 P') W := px_MR hm2
      have ms := fun K => m_isShut (u := u) (L := L) (xs := xs) (Z := Z) (K := K) (s := ic sn) hrr3 hx3 hm3
      have mf := fun K => m_isFree (u := u) (L := L) (xs := xs) (Z := Z) (K := K) (sn := sn) hx3 hrr3 hm3 hw2.1 (by rw [np3]; exact hw2.2.1) (by rw [hn2]; exact hr) h61 hstr (by rw [np3]; exact hsn)
      simp only [lo_shu lo3, lo_ns lo3] at ms
      simp only [lo_fr lo3, np3] at mf
      have c1n : (¬ W 13 r < W 0 5) = False := by simp [c1]
      have r2 := hrr3.2.2.1 sn (by omega)
      have e10 : (sn < 10) = True := eq_true (by omega)
      have x2 : px X2 P' 2 = X2 2 := px_n (by decide)
      rw [x2] at r2
      simp only [c1n, false_or] at hK
      by_cases ch : (helF X2 r (pN W r) (npN X2) (nrN W) 0 (lnN X2) W).1 = true
      · rw [ch, b2i_t]
        simp (disch := first | assumption | omega) only [en_138, w_138_0, w_138_1, w_138_2, w_138_3, w_138_6, w_138_7, w_138_8, w_138_9, w_138_12, w_138_13, w_138_16, w_138_18, w_138_19, w_138_20, w_138_21, w_138_22, w_138_23, w_138_26, w_138_27, w_138_28, w_138_31, w_138_32, w_138_35, w_138_36, w_138_37, w_138_38, w_138_39, w_138_40, w_138_43, w_138_45, w_138_46, w_138_47, w_138_48, w_138_49, w_138_52, w_138_55, w_138_56, w_138_57, w_138_60, w_138_64, w_138_65, w_138_68, w_138_71, w_138_72, w_138_73, w_138_76, w_138_79, w_138_80, w_138_83, w_138_84, w_138_85, w_138_86, w_138_87, w_138_88, w_138_89, w_138_92, w_138_94, w_138_95, w_138_96, w_138_97, w_138_100, w_138_101, w_138_102, w_138_103, w_138_104, w_138_107, w_138_109, w_138_110, w_138_111, w_138_112, w_138_113, show ((1 : Int32) = 0) = False by decide, not_false_eq_true, if_true]
        refine hK _ ?_ (Fr_tr hf hf3)
        split
        · exact hm3
        · split
          · first | rw [if_pos ch] | skip
            exact MR_ex hm3 (fun a _ _ h3 => helF_ne h3 _ _ _)
          · exact hm3
      · have ch' : (helF X2 r (pN W r) (npN X2) (nrN W) 0 (lnN X2) W).1 = false := by simpa using ch
        rw [ch', b2i_f]
        by_cases csh : exB (shuB X2 (ic sn) (W 0 5)) 0 (nsN X2) = true
        · rw [if_pos csh] at hK
          simp (disch := first | assumption | omega) only [en_138, w_138_0, w_138_1, w_138_2, w_138_3, w_138_6, w_138_7, w_138_8, w_138_9, w_138_12, w_138_13, w_138_16, w_138_18, w_138_19, w_138_20, w_138_21, w_138_22, w_138_23, w_138_26, w_138_27, w_138_28, w_138_31, w_138_32, w_138_35, w_138_36, w_138_37, w_138_38, w_138_39, w_138_40, w_138_43, w_138_45, w_138_46, w_138_47, w_138_48, w_138_49, w_138_52, w_138_55, w_138_56, w_138_57, w_138_60, w_138_63, w_138_64, w_138_65, w_138_68, w_138_72, w_138_73, w_138_76, w_138_79, w_138_80, w_138_83, w_138_84, w_138_85, w_138_86, w_138_87, w_138_88, w_138_89, w_138_92, w_138_94, w_138_95, w_138_96, w_138_97, w_138_100, w_138_101, w_138_102, w_138_103, w_138_104, w_138_107, w_138_109, w_138_110, w_138_111, w_138_112, w_138_113, not_true_eq_false, if_false, ms, ne_thr, app1, true_and, csh, b2i_t, show ((1 : Int32) = 0) = False by decide, not_false_eq_true, if_true]
          exact hK _ hm3 (Fr_tr hf hf3)
        · have csh' : exB (shuB X2 (ic sn) (W 0 5)) 0 (nsN X2) = false := by simpa using csh
          rw [if_neg csh] at hK
          by_cases cfr : frB X2 W r sn (npN X2) (nrN W) = true
          · rw [if_pos cfr, if_neg ch] at hK
            have hm4 : MR (px X2 P') (helF X2 r (pN W r) (npN X2) (nrN W) 0 (lnN X2) W).2 := MR_ex hm3 (fun a _ _ h3 => helF_ne h3 _ _ _)
            have fin := hK _ (lea_MR hr12 hm4) (Fr_tr (Fr_tr hf hf3) (Fr_tr (Fr_tr Fr_row Fr_row) Fr_row))
            simp (disch := first | assumption | omega) only [en_138, w_138_0, w_138_1, w_138_2, w_138_3, w_138_6, w_138_7, w_138_8, w_138_9, w_138_12, w_138_13, w_138_16, w_138_18, w_138_19, w_138_20, w_138_21, w_138_22, w_138_23, w_138_26, w_138_27, w_138_28, w_138_31, w_138_32, w_138_35, w_138_36, w_138_37, w_138_38, w_138_39, w_138_40, w_138_43, w_138_45, w_138_46, w_138_47, w_138_48, w_138_49, w_138_52, w_138_55, w_138_56, w_138_57, w_138_60, w_138_63, w_138_64, w_138_65, w_138_68, w_138_71, w_138_72, w_138_73, w_138_76, w_138_79, w_138_80, w_138_83, w_138_84, w_138_85, w_138_86, w_138_87, w_138_88, w_138_89, w_138_92, w_138_94, w_138_95, w_138_96, w_138_97, w_138_100, w_138_101, w_138_102, w_138_103, w_138_104, w_138_107, w_138_109, w_138_110, w_138_111, w_138_112, w_138_113, not_true_eq_false, if_false, ms, mf, ne_thr, app1, true_and, csh', cfr, b2i_t, b2i_f, show ((1 : Int32) = 0) = False by decide, a0, a12, a24, a36, a48, a60, a72, a152, a232, a312, ic_clamp, inB_ic, e0, e24, e36, e10, sv_d, sv_a, r2]
            exact fin
          · have cfr' : frB X2 W r sn (npN X2) (nrN W) = false := by simpa using cfr
            rw [if_neg cfr] at hK
            simp (disch := first | assumption | omega) only [en_138, w_138_0, w_138_1, w_138_2, w_138_3, w_138_6, w_138_7, w_138_8, w_138_9, w_138_12, w_138_13, w_138_16, w_138_18, w_138_19, w_138_20, w_138_21, w_138_22, w_138_23, w_138_26, w_138_27, w_138_28, w_138_31, w_138_32, w_138_35, w_138_36, w_138_37, w_138_38, w_138_39, w_138_40, w_138_43, w_138_45, w_138_46, w_138_47, w_138_48, w_138_49, w_138_52, w_138_55, w_138_56, w_138_57, w_138_60, w_138_63, w_138_64, w_138_65, w_138_68, w_138_71, w_138_72, w_138_73, w_138_76, w_138_80, w_138_83, w_138_84, w_138_85, w_138_86, w_138_87, w_138_88, w_138_89, w_138_92, w_138_94, w_138_95, w_138_96, w_138_97, w_138_100, w_138_101, w_138_102, w_138_103, w_138_104, w_138_107, w_138_109, w_138_110, w_138_111, w_138_112, w_138_113, not_true_eq_false, if_false, ms, mf, ne_thr, app1, true_and, csh', cfr', b2i_f, if_true]
            exact hK _ hm3 (Fr_tr hf hf3)
    · have c1' : W 0 5 ≤ W 13 r := by rw [nle]; exact c1
      rw [if_pos c1']
      rw [if_pos (Or.inl c1)] at hK
      exact hK _ hm2 hf
  by_cases b : W 2 r = 0
  · have hs' : ic (pN W r) - 1 = ic sn := by rw [← a1, ← hstr]; unfold strF; rw [if_pos b]
    simp (disch := first | assumption | omega) only [en_138, w_138_0, w_138_1, w_138_2, w_138_3, w_138_6, w_138_7, w_138_8, w_138_9, w_138_12, w_138_13, w_138_16, w_138_18, w_138_19, w_138_20, w_138_21, w_138_22, w_138_23, w_138_26, w_138_27, w_138_28, w_138_31, w_138_32, w_138_35, w_138_36, w_138_37, w_138_38, w_138_40, w_138_43, w_138_45, w_138_46, w_138_47, w_138_48, w_138_49, w_138_52, w_138_55, w_138_56, w_138_57, w_138_60, w_138_63, w_138_64, w_138_65, w_138_68, w_138_71, w_138_72, w_138_73, w_138_76, w_138_79, w_138_80, w_138_83, w_138_84, w_138_85, w_138_86, w_138_87, w_138_88, w_138_89, w_138_92, w_138_94, w_138_95, w_138_96, w_138_97, w_138_100, w_138_101, w_138_102, w_138_103, w_138_104, w_138_107, w_138_109, w_138_110, w_138_111, w_138_112, w_138_113, a0, a12, a24, a36, a48, a60, a72, a152, a232, a312, ic_clamp, inB_ic, er, e12, true_and, m7 hm2, m2 hm2, b, if_true, a1, hs']
    exact key
  · have hs' : ic (pN W r) = ic sn := by rw [← a1, ← hstr]; unfold strF; rw [if_neg b]
    rw [hs'] at key
    simp (disch := first | assumption | omega) only [en_138, w_138_0, w_138_1, w_138_2, w_138_3, w_138_6, w_138_7, w_138_8, w_138_9, w_138_12, w_138_13, w_138_16, w_138_18, w_138_19, w_138_20, w_138_21, w_138_22, w_138_23, w_138_26, w_138_27, w_138_28, w_138_31, w_138_32, w_138_35, w_138_36, w_138_37, w_138_38, w_138_40, w_138_43, w_138_45, w_138_46, w_138_47, w_138_48, w_138_49, w_138_52, w_138_55, w_138_56, w_138_57, w_138_60, w_138_63, w_138_64, w_138_65, w_138_68, w_138_71, w_138_72, w_138_73, w_138_76, w_138_79, w_138_80, w_138_83, w_138_84, w_138_85, w_138_86, w_138_87, w_138_88, w_138_89, w_138_92, w_138_94, w_138_95, w_138_96, w_138_97, w_138_100, w_138_101, w_138_102, w_138_103, w_138_104, w_138_107, w_138_109, w_138_110, w_138_111, w_138_112, w_138_113, a0, a12, a24, a36, a48, a60, a72, a152, a232, a312, ic_clamp, inB_ic, er, e12, true_and, m7 hm2, m2 hm2, b, if_false, a1, hs']
    exact key
theorem WI_now {np : Nat} {v : Int32} (h : WI np V) : WI np (sv V 0 5 v) := ⟨(sv05_ok h.1 h.2.1).1, (sv05_ok h.1 h.2.1).2, LI_of (sv_a (by decide)) (sv_a (by decide)) (sv_a (by decide)) h.2.2.1, CI_of (sv_a (by decide)) (sv_a (by decide)) (sv_a (by decide)) (sv_a (by decide)) (sv_a (by decide)) (sv_a (by decide)) h.2.2.2⟩
theorem WI_s1 {r : Nat} (hx : RdOK X) (h : WI (npN X) V) (hr : r < nrN V) : WI (npN X) (s1F X r V) := by
  have hr12 : r < 12 := by have := h.1.2.1; omega
  obtain ⟨a, b⟩ := VI_s1 hx h.1 h.2.1 hr
  refine ⟨a, b, ?_, ?_⟩
  · unfold s1F
    split
    · exact LI_of (dri_ne (by decide) (by decide) (by decide) (by decide) (by decide) (by decide) (by decide) (by decide) (by decide)) (dri_ne (by decide) (by decide) (by decide) (by decide) (by decide) (by decide) (by decide) (by decide) (by decide)) (dri_ne (by decide) (by decide) (by decide) (by decide) (by decide) (by decide) (by decide) (by decide) (by decide)) h.2.2.1
    · exact h.2.2.1
  · have c8 : CI (sv V 8 r (V 8 r - 1)) := CI_of (sv_a (by decide)) (sv_a (by decide)) (sv_a (by decide)) (sv_a (by decide)) (sv_a (by decide)) (sv_a (by decide)) h.2.2.2
    have cs : CI (staF (sv V 8 r (V 8 r - 1)) r (aheF V r) (V 0 5)) := CI_of (sta_ne (by decide) (by decide) (by decide) (by decide)) (sta_ne (by decide) (by decide) (by decide) (by decide)) (sta_ne (by decide) (by decide) (by decide) (by decide)) (sta_ne (by decide) (by decide) (by decide) (by decide)) (sta_ne (by decide) (by decide) (by decide) (by decide)) (sta_ne (by decide) (by decide) (by decide) (by decide)) c8
    unfold s1F
    split
    · unfold driF
      split
      · exact c8
      · split
        · exact CI_of (end_ne (by decide) (by decide) (by decide)) (end_ne (by decide) (by decide) (by decide)) (end_ne (by decide) (by decide) (by decide)) (end_ne (by decide) (by decide) (by decide)) (end_ne (by decide) (by decide) (by decide)) (end_ne (by decide) (by decide) (by decide)) (CI_letOut hr12 cs)
        · exact CI_letOut hr12 cs
    · exact h.2.2.2
theorem WI_s2 {r : Nat} (hx : RdOK X) (h : WI (npN X) V) (hr : r < nrN V) : WI (npN X) (s2F X r V) := by
  obtain ⟨a, b⟩ := VI_s2 hx h.1 h.2.1 hr
  refine ⟨a, b, ?_, ?_⟩
  · unfold s2F
    split
    · exact LI_of (sta_ne (by decide) (by decide) (by decide) (by decide)) (sta_ne (by decide) (by decide) (by decide) (by decide)) (sta_ne (by decide) (by decide) (by decide) (by decide)) h.2.2.1
    · exact h.2.2.1
  · unfold s2F
    split
    · exact CI_of (sta_ne (by decide) (by decide) (by decide) (by decide)) (sta_ne (by decide) (by decide) (by decide) (by decide)) (sta_ne (by decide) (by decide) (by decide) (by decide)) (sta_ne (by decide) (by decide) (by decide) (by decide)) (sta_ne (by decide) (by decide) (by decide) (by decide)) (sta_ne (by decide) (by decide) (by decide) (by decide)) h.2.2.2
    · exact h.2.2.2
theorem WI_s3 {r : Nat} (hx : RdOK X) (h : WI (npN X) V) (hr : r < nrN V) : WI (npN X) (s3F X r V) := by
  have hr12 : r < 12 := by have := h.1.2.1; omega
  obtain ⟨a, b⟩ := VI_s3 hx h.1 h.2.1 hr
  have t : WI (npN X) (takF V r) := by unfold takF; exact tk_WI hr12 (tk_WI hr12 h)
  refine ⟨a, b, ?_, ?_⟩
  · unfold s3F
    split
    · exact LI_of (lif_ne (by decide) (by decide) (by decide) (by decide)) (lif_ne (by decide) (by decide) (by decide) (by decide)) (lif_ne (by decide) (by decide) (by decide) (by decide)) t.2.2.1
    · exact h.2.2.1
  · unfold s3F
    split
    · exact CI_of (lif_ne (by decide) (by decide) (by decide) (by decide)) (lif_ne (by decide) (by decide) (by decide) (by decide)) (lif_ne (by decide) (by decide) (by decide) (by decide)) (lif_ne (by decide) (by decide) (by decide) (by decide)) (lif_ne (by decide) (by decide) (by decide) (by decide)) (lif_ne (by decide) (by decide) (by decide) (by decide)) t.2.2.2
    · exact h.2.2.2
theorem l_min3 : ∀ d k X V, SI X → MR X V → WI (npN X) V → k + d = nrN V → (∀ X', MR X' (itr (s3F X) k d V) → Fr X X' → K [] (hX u L xs X' Z)) → WP 139 0 160 [.ref 97, .int (ic k)] [] (hX u L xs X Z) K := by
  intro d
  induction d with
  | zero =>
    intro k X V hs hm hw hk hK
    have h13 := hm.2.1
    have o1 := hw.1.1
    have o2 := hw.1.2.1
    have e : (nrN V ≤ k) = True := eq_true (by omega)
    rw [w_139_160]
    simp (disch := first | assumption | omega) only [en_139, w_139_0, w_139_1, w_139_2, w_139_5, w_139_6, w_139_7, w_139_10, w_139_11, w_139_12, w_139_13, w_139_14, w_139_17, w_139_20, w_139_21, w_139_24, w_139_25, w_139_26, w_139_27, w_139_28, w_139_29, w_139_32, w_139_33, w_139_36, w_139_38, w_139_39, w_139_40, w_139_41, w_139_42, w_139_43, w_139_44, w_139_45, w_139_46, w_139_49, w_139_51, w_139_52, w_139_53, w_139_54, w_139_57, w_139_58, w_139_59, w_139_62, w_139_65, w_139_68, w_139_69, w_139_70, w_139_71, w_139_72, w_139_75, w_139_78, w_139_79, w_139_82, w_139_83, w_139_84, w_139_85, w_139_86, w_139_89, w_139_90, w_139_93, w_139_94, w_139_95, w_139_96, w_139_99, w_139_102, w_139_103, w_139_106, w_139_107, w_139_108, w_139_109, w_139_110, w_139_111, w_139_112, w_139_115, w_139_117, w_139_118, w_139_119, w_139_120, w_139_123, w_139_124, w_139_125, w_139_128, w_139_129, w_139_132, w_139_133, w_139_136, w_139_137, w_139_138, w_139_139, w_139_140, w_139_143, w_139_145, w_139_146, w_139_147, w_139_148, w_139_151, w_139_152, w_139_155, w_139_158, w_139_159, w_139_161, w_139_162, w_139_165, w_139_169, w_139_172, w_139_173, w_139_174, w_139_175, w_139_176, w_139_177, w_139_180, w_139_181, w_139_182, w_139_185, w_139_188, w_139_191, h13, o1, ic_le, e, if_true]
    exact hK X hm Fr_refl
  | succ d ih =>
    intro k X V hs hm hw hk hK
    have h13 := hm.2.1
    have o1 := hw.1.1
    have o2 := hw.1.2.1
    have e : (nrN V ≤ k) = False := eq_false (by omega)
    have hk12 : k < 12 := by omega
    have e0 : (k < 392) = True := eq_true (by omega)
    unfold itr at hK
    rw [w_139_160]
    simp (disch := first | assumption | omega) only [en_139, w_139_0, w_139_1, w_139_2, w_139_5, w_139_6, w_139_7, w_139_10, w_139_11, w_139_12, w_139_13, w_139_14, w_139_17, w_139_20, w_139_21, w_139_24, w_139_25, w_139_26, w_139_27, w_139_28, w_139_29, w_139_32, w_139_33, w_139_36, w_139_38, w_139_39, w_139_40, w_139_41, w_139_42, w_139_43, w_139_44, w_139_45, w_139_46, w_139_49, w_139_51, w_139_52, w_139_53, w_139_54, w_139_57, w_139_58, w_139_59, w_139_62, w_139_65, w_139_68, w_139_69, w_139_70, w_139_71, w_139_72, w_139_75, w_139_78, w_139_79, w_139_82, w_139_83, w_139_84, w_139_85, w_139_86, w_139_89, w_139_90, w_139_93, w_139_94, w_139_95, w_139_96, w_139_99, w_139_102, w_139_103, w_139_106, w_139_107, w_139_108, w_139_109, w_139_110, w_139_111, w_139_112, w_139_115, w_139_117, w_139_118, w_139_119, w_139_120, w_139_123, w_139_124, w_139_125, w_139_128, w_139_129, w_139_132, w_139_133, w_139_136, w_139_137, w_139_138, w_139_139, w_139_140, w_139_143, w_139_145, w_139_146, w_139_147, w_139_148, w_139_151, w_139_152, w_139_155, w_139_158, w_139_159, w_139_161, w_139_162, w_139_165, w_139_168, w_139_169, w_139_172, w_139_173, w_139_174, w_139_175, w_139_176, w_139_177, w_139_181, w_139_182, w_139_188, w_139_191, h13, o1, ic_le, e, if_false, a0, a12, a24, a36, a48, a60, a72, a152, a232, a312, ic_clamp, inB_ic, e0, true_and, m6 hm]
    have hw' := WI_s3 (r := k) hs.1 hw (by omega)
    have nx : ∀ X', MR X' (s3F X k V) → Fr X X' → WP 139 0 185 [.ref 97, .int (ic k)] [] (hX u L xs X' Z) K := by
      intro X' hm' hf
      obtain ⟨hs', np'⟩ := Fr_SI hf hs
      rw [w_139_185, ic_add1, w_139_188]
      refine ih (k + 1) X' _ hs' hm' (by rw [np']; exact hw') (by rw [nr_of (s3_ne (by decide) (by decide) (by decide) (by decide) (by decide) (by decide) (by decide) (by decide) (by decide) (by decide))]; omega) (fun X2 h1 h2 => hK X2 ?_ (Fr_tr hf h2))
      rw [lo_s3 (Fr_Lo hf)] at h1
      exact h1
    by_cases c : V 6 k = 1
    · rw [if_neg (not_not_intro c), w_139_180, w_139_181, w_139_182]
      refine m_stands hs hm hw (by omega) c (fun X' h1 h2 => ?_)
      simp only [ne_thr0, app0, true_and]
      exact nx X' (by unfold s3F; rw [if_pos c]; exact h1) h2
    · rw [if_pos c]
      exact nx X (by unfold s3F; rw [if_neg c]; exact hm) Fr_refl
theorem l_min2 : ∀ d k X V, SI X → MR X V → WI (npN X) V → k + d = nrN V → (∀ X', MR X' (itr (s2F X) k d V) → WI (npN X) (itr (s2F X) k d V) → nrN (itr (s2F X) k d V) = nrN V → Fr X X' → WP 139 0 160 [.ref 97, .int 0] [] (hX u L xs X' Z) K) → WP 139 0 70 [.ref 97, .int (ic k)] [] (hX u L xs X Z) K := by
  intro d
  induction d with
  | zero =>
    intro k X V hs hm hw hk hK
    have h13 := hm.2.1
    have o1 := hw.1.1
    have o2 := hw.1.2.1
    have e : (nrN V ≤ k) = True := eq_true (by omega)
    rw [w_139_70]
    simp (disch := first | assumption | omega) only [en_139, w_139_0, w_139_1, w_139_2, w_139_5, w_139_6, w_139_7, w_139_10, w_139_11, w_139_12, w_139_13, w_139_14, w_139_17, w_139_20, w_139_21, w_139_24, w_139_25, w_139_26, w_139_27, w_139_28, w_139_29, w_139_32, w_139_33, w_139_36, w_139_38, w_139_39, w_139_40, w_139_41, w_139_42, w_139_43, w_139_44, w_139_45, w_139_46, w_139_49, w_139_51, w_139_52, w_139_53, w_139_54, w_139_57, w_139_58, w_139_59, w_139_62, w_139_65, w_139_68, w_139_69, w_139_71, w_139_72, w_139_75, w_139_79, w_139_82, w_139_83, w_139_84, w_139_85, w_139_86, w_139_89, w_139_90, w_139_93, w_139_94, w_139_95, w_139_96, w_139_99, w_139_102, w_139_103, w_139_106, w_139_107, w_139_108, w_139_109, w_139_110, w_139_111, w_139_112, w_139_115, w_139_117, w_139_118, w_139_119, w_139_120, w_139_123, w_139_124, w_139_125, w_139_128, w_139_129, w_139_132, w_139_133, w_139_136, w_139_137, w_139_138, w_139_139, w_139_140, w_139_143, w_139_145, w_139_146, w_139_147, w_139_148, w_139_151, w_139_152, w_139_155, w_139_158, w_139_159, w_139_161, w_139_162, w_139_165, w_139_168, w_139_169, w_139_172, w_139_173, w_139_174, w_139_175, w_139_176, w_139_177, w_139_180, w_139_181, w_139_182, w_139_185, w_139_188, w_139_191, h13, o1, ic_le, e, if_true]
    exact hK X hm hw rfl Fr_refl
  | succ d ih =>
    intro k X V hs hm hw hk hK
    have h13 := hm.2.1
    have h23 := hm.1
    have o1 := hw.1.1
    have o2 := hw.1.2.1
    have e : (nrN V ≤ k) = False := eq_false (by omega)
    have hk12 : k < 12 := by omega
    have e12 : (k < 12) = True := eq_true hk12
    have e0 : (k < 392) = True := eq_true (by omega)
    have f12 : (12 + k < 392) = True := eq_true (by omega)
    have f36 : (36 + k < 392) = True := eq_true (by omega)
    unfold itr at hK
    have hw' := WI_s2 (r := k) hs.1 hw (by omega)
    have nx : ∀ X', MR X' (s2F X k V) → Fr X X' → WP 139 0 152 [.ref 97, .int (ic k)] [] (hX u L xs X' Z) K := by
      intro X' hm' hf
      obtain ⟨hs', np'⟩ := Fr_SI hf hs
      rw [w_139_152, ic_add1, w_139_155]
      refine ih (k + 1) X' _ hs' hm' (by rw [np']; exact hw') (by rw [nr_of s2_1]; omega) (fun X2 h1 h2 h3 h4 => hK X2 ?_ ?_ ?_ (Fr_tr hf h4))
      · rw [lo_s2 (Fr_Lo hf)] at h1
        exact h1
      · rw [lo_s2 (Fr_Lo hf), np'] at h2
        exact h2
      · rw [lo_s2 (Fr_Lo hf)] at h3
        rw [h3]
        exact nr_of s2_1
    rw [w_139_70]
    by_cases c : V 6 k = 0 ∧ ¬ V 0 5 < V 5 k
    · obtain ⟨c1, c2⟩ := c
      have hs2 : s2F X k V = staF V k (if V 2 k = 0 then X 1 0 - 1 else 0) (V 0 5) := by unfold s2F; rw [if_pos ⟨c1, c2⟩]
      have h8 : V 8 k = 0 := (hw.2.1.2.1 k hk12).2.2 (by rw [c1]; decide)
      have es : s2F X k V = sv (sv (sv V 6 k 1) 7 k (if V 2 k = 0 then X 1 0 - 1 else 0)) 13 k (V 0 5) := by
        rw [hs2, sta_alt h8]
        congr 1
        exact sv_comm (by decide)
      rw [es] at nx
      have r10 := hs.2.1.1
      by_cases b : V 2 k = 0
      · rw [if_pos b] at nx
        have fin := nx _ (u13 (u7 (u6 hm hk12) hk12) hk12) (Fr_tr (Fr_tr Fr_row Fr_row) Fr_row)
        simp (disch := first | assumption | omega) only [en_139, w_139_0, w_139_1, w_139_2, w_139_5, w_139_6, w_139_7, w_139_10, w_139_11, w_139_12, w_139_13, w_139_14, w_139_17, w_139_20, w_139_21, w_139_24, w_139_25, w_139_26, w_139_27, w_139_28, w_139_29, w_139_32, w_139_33, w_139_36, w_139_38, w_139_39, w_139_40, w_139_41, w_139_42, w_139_43, w_139_44, w_139_45, w_139_46, w_139_49, w_139_51, w_139_52, w_139_53, w_139_54, w_139_57, w_139_58, w_139_59, w_139_62, w_139_65, w_139_68, w_139_69, w_139_71, w_139_72, w_139_75, w_139_78, w_139_79, w_139_82, w_139_83, w_139_84, w_139_85, w_139_86, w_139_89, w_139_90, w_139_93, w_139_94, w_139_95, w_139_96, w_139_99, w_139_102, w_139_103, w_139_106, w_139_107, w_139_108, w_139_109, w_139_110, w_139_111, w_139_112, w_139_115, w_139_117, w_139_118, w_139_119, w_139_120, w_139_123, w_139_124, w_139_125, w_139_128, w_139_129, w_139_132, w_139_133, w_139_136, w_139_137, w_139_138, w_139_139, w_139_140, w_139_143, w_139_145, w_139_146, w_139_147, w_139_148, w_139_151, w_139_155, w_139_158, w_139_159, w_139_161, w_139_162, w_139_165, w_139_168, w_139_169, w_139_172, w_139_173, w_139_174, w_139_175, w_139_176, w_139_177, w_139_180, w_139_181, w_139_182, w_139_185, w_139_188, w_139_191, h13, o1, ic_le, e, if_false, a0, a12, a24, a36, a48, a60, a72, a152, a232, a312, ic_clamp, inB_ic, e0, e12, f12, f36, true_and, m6 hm, m5 hm, m2 hm, h23, r10, c1, not_true_eq_false, c2, b, if_true, sv_d, sv_a]
        exact fin
      · rw [if_neg b] at nx
        have fin := nx _ (u13 (u7 (u6 hm hk12) hk12) hk12) (Fr_tr (Fr_tr Fr_row Fr_row) Fr_row)
        simp (disch := first | assumption | omega) only [en_139, w_139_0, w_139_1, w_139_2, w_139_5, w_139_6, w_139_7, w_139_10, w_139_11, w_139_12, w_139_13, w_139_14, w_139_17, w_139_20, w_139_21, w_139_24, w_139_25, w_139_26, w_139_27, w_139_28, w_139_29, w_139_32, w_139_33, w_139_36, w_139_38, w_139_39, w_139_40, w_139_41, w_139_42, w_139_43, w_139_44, w_139_45, w_139_46, w_139_49, w_139_51, w_139_52, w_139_53, w_139_54, w_139_57, w_139_58, w_139_59, w_139_62, w_139_65, w_139_68, w_139_69, w_139_71, w_139_72, w_139_75, w_139_78, w_139_79, w_139_82, w_139_83, w_139_84, w_139_85, w_139_86, w_139_89, w_139_90, w_139_93, w_139_94, w_139_95, w_139_96, w_139_99, w_139_102, w_139_103, w_139_106, w_139_107, w_139_108, w_139_109, w_139_110, w_139_111, w_139_112, w_139_115, w_139_117, w_139_118, w_139_119, w_139_120, w_139_123, w_139_124, w_139_125, w_139_128, w_139_129, w_139_132, w_139_133, w_139_136, w_139_137, w_139_138, w_139_139, w_139_140, w_139_143, w_139_145, w_139_146, w_139_147, w_139_148, w_139_151, w_139_155, w_139_158, w_139_159, w_139_161, w_139_162, w_139_165, w_139_168, w_139_169, w_139_172, w_139_173, w_139_174, w_139_175, w_139_176, w_139_177, w_139_180, w_139_181, w_139_182, w_139_185, w_139_188, w_139_191, h13, o1, ic_le, e, if_false, a0, a12, a24, a36, a48, a60, a72, a152, a232, a312, ic_clamp, inB_ic, e0, e12, f12, f36, true_and, m6 hm, m5 hm, m2 hm, h23, r10, c1, not_true_eq_false, c2, b, sv_d, sv_a]
        exact fin
    · have es : s2F X k V = V := by unfold s2F; rw [if_neg c]
      rw [es] at nx
      have fin := nx X hm Fr_refl
      simp (disch := first | assumption | omega) only [en_139, w_139_0, w_139_1, w_139_2, w_139_5, w_139_6, w_139_7, w_139_10, w_139_11, w_139_12, w_139_13, w_139_14, w_139_17, w_139_20, w_139_21, w_139_24, w_139_25, w_139_26, w_139_27, w_139_28, w_139_29, w_139_32, w_139_33, w_139_36, w_139_38, w_139_39, w_139_40, w_139_41, w_139_42, w_139_43, w_139_44, w_139_45, w_139_46, w_139_49, w_139_51, w_139_52, w_139_53, w_139_54, w_139_57, w_139_58, w_139_59, w_139_62, w_139_65, w_139_68, w_139_69, w_139_71, w_139_72, w_139_75, w_139_78, w_139_79, w_139_82, w_139_83, w_139_84, w_139_85, w_139_86, w_139_89, w_139_90, w_139_93, w_139_94, w_139_95, w_139_96, w_139_99, w_139_103, w_139_106, w_139_107, w_139_108, w_139_109, w_139_110, w_139_111, w_139_112, w_139_115, w_139_117, w_139_118, w_139_119, w_139_120, w_139_123, w_139_124, w_139_125, w_139_128, w_139_129, w_139_132, w_139_133, w_139_136, w_139_137, w_139_138, w_139_139, w_139_140, w_139_143, w_139_145, w_139_146, w_139_147, w_139_148, w_139_151, w_139_155, w_139_158, w_139_159, w_139_161, w_139_162, w_139_165, w_139_168, w_139_169, w_139_172, w_139_173, w_139_174, w_139_175, w_139_176, w_139_177, w_139_180, w_139_181, w_139_182, w_139_185, w_139_188, w_139_191, h13, o1, ic_le, e, if_false, a0, a12, a24, a36, a48, a60, a72, a152, a232, a312, ic_clamp, inB_ic, e0, e12, f12, f36, true_and, m6 hm, m5 hm, m2 hm, h23]
      by_cases c1 : V 6 k = 0
      · have c2 : V 0 5 < V 5 k := Classical.not_not.mp (fun q => c ⟨c1, q⟩)
        rw [if_neg (not_not_intro c1), if_pos c2]
        exact fin
      · rw [if_pos c1]
        exact fin
theorem l_min1 : ∀ d k X V, SI X → MR X V → WI (npN X) V → k + d = nrN V → (∀ X', MR X' (itr (s1F X) k d V) → WI (npN X) (itr (s1F X) k d V) → nrN (itr (s1F X) k d V) = nrN V → Fr X X' → WP 139 0 70 [.ref 97, .int 0] [] (hX u L xs X' Z) K) → WP 139 0 12 [.ref 97, .int (ic k)] [] (hX u L xs X Z) K := by
  intro d
  induction d with
  | zero =>
    intro k X V hs hm hw hk hK
    have h13 := hm.2.1
    have o1 := hw.1.1
    have o2 := hw.1.2.1
    have e : (nrN V ≤ k) = True := eq_true (by omega)
    rw [w_139_12]
    simp (disch := first | assumption | omega) only [en_139, w_139_0, w_139_1, w_139_2, w_139_5, w_139_6, w_139_7, w_139_10, w_139_11, w_139_13, w_139_14, w_139_17, w_139_21, w_139_24, w_139_25, w_139_26, w_139_27, w_139_28, w_139_29, w_139_32, w_139_33, w_139_36, w_139_38, w_139_39, w_139_40, w_139_41, w_139_42, w_139_43, w_139_44, w_139_45, w_139_46, w_139_49, w_139_51, w_139_52, w_139_53, w_139_54, w_139_57, w_139_58, w_139_59, w_139_62, w_139_65, w_139_68, w_139_69, w_139_71, w_139_72, w_139_75, w_139_78, w_139_79, w_139_82, w_139_83, w_139_84, w_139_85, w_139_86, w_139_89, w_139_90, w_139_93, w_139_94, w_139_95, w_139_96, w_139_99, w_139_102, w_139_103, w_139_106, w_139_107, w_139_108, w_139_109, w_139_110, w_139_111, w_139_112, w_139_115, w_139_117, w_139_118, w_139_119, w_139_120, w_139_123, w_139_124, w_139_125, w_139_128, w_139_129, w_139_132, w_139_133, w_139_136, w_139_137, w_139_138, w_139_139, w_139_140, w_139_143, w_139_145, w_139_146, w_139_147, w_139_148, w_139_151, w_139_152, w_139_155, w_139_158, w_139_159, w_139_160, w_139_161, w_139_162, w_139_165, w_139_168, w_139_169, w_139_172, w_139_173, w_139_174, w_139_175, w_139_176, w_139_177, w_139_180, w_139_181, w_139_182, w_139_185, w_139_188, w_139_191, h13, o1, ic_le, e, if_true]
    exact hK X hm hw rfl Fr_refl
  | succ d ih =>
    intro k X V hs hm hw hk hK
    have h13 := hm.2.1
    have h23 := hm.1
    have o1 := hw.1.1
    have o2 := hw.1.2.1
    have h10 := hs.1.2.2.1
    have e : (nrN V ≤ k) = False := eq_false (by omega)
    have hk12 : k < 12 := by omega
    have e0 : (k < 392) = True := eq_true (by omega)
    have f24 : (24 + k < 392) = True := eq_true (by omega)
    unfold itr at hK
    have hw' := WI_s1 (r := k) hs.1 hw (by omega)
    have nx : ∀ X', MR X' (s1F X k V) → Fr X X' → WP 139 0 62 [.ref 97, .int (ic k)] [] (hX u L xs X' Z) K := by
      intro X' hm' hf
      obtain ⟨hs', np'⟩ := Fr_SI hf hs
      rw [w_139_62, ic_add1, w_139_65]
      refine ih (k + 1) X' _ hs' hm' (by rw [np']; exact hw') (by rw [nr_of s1_1]; omega) (fun X2 h1 h2 h3 h4 => hK X2 ?_ ?_ ?_ (Fr_tr hf h4))
      · rw [lo_s1 (Fr_Lo hf)] at h1
        exact h1
      · rw [lo_s1 (Fr_Lo hf), np'] at h2
        exact h2
      · rw [lo_s1 (Fr_Lo hf)] at h3
        rw [h3]
        exact nr_of s1_1
    rw [w_139_12]
    by_cases c : V 6 k = 2
    · have es : s1F X k V = driF X V k := by unfold s1F; rw [if_pos c]
      rw [es] at nx
      have hv := hw.2.1.2.1 k hk12
      have hl := hv.2.1 c
      have hm8 := u8 (v := V 8 k - 1) hm hk12
      simp (disch := first | assumption | omega) only [en_139, w_139_0, w_139_1, w_139_2, w_139_5, w_139_6, w_139_7, w_139_10, w_139_11, w_139_13, w_139_14, w_139_17, w_139_20, w_139_21, w_139_24, w_139_25, w_139_26, w_139_27, w_139_28, w_139_29, w_139_32, w_139_33, w_139_36, w_139_38, w_139_39, w_139_40, w_139_41, w_139_42, w_139_43, w_139_44, w_139_45, w_139_46, w_139_49, w_139_51, w_139_52, w_139_53, w_139_54, w_139_58, w_139_59, w_139_65, w_139_68, w_139_69, w_139_71, w_139_72, w_139_75, w_139_78, w_139_79, w_139_82, w_139_83, w_139_84, w_139_85, w_139_86, w_139_89, w_139_90, w_139_93, w_139_94, w_139_95, w_139_96, w_139_99, w_139_102, w_139_103, w_139_106, w_139_107, w_139_108, w_139_109, w_139_110, w_139_111, w_139_112, w_139_115, w_139_117, w_139_118, w_139_119, w_139_120, w_139_123, w_139_124, w_139_125, w_139_128, w_139_129, w_139_132, w_139_133, w_139_136, w_139_137, w_139_138, w_139_139, w_139_140, w_139_143, w_139_145, w_139_146, w_139_147, w_139_148, w_139_151, w_139_152, w_139_155, w_139_158, w_139_159, w_139_161, w_139_162, w_139_165, w_139_168, w_139_169, w_139_172, w_139_173, w_139_174, w_139_175, w_139_176, w_139_177, w_139_180, w_139_181, w_139_182, w_139_185, w_139_188, w_139_191, h13, o1, ic_le, e, if_false, a0, a12, a24, a36, a48, a60, a72, a152, a232, a312, ic_clamp, inB_ic, e0, f24, true_and, m6 hm, m8 hm, c, not_true_eq_false, sv_d, sv_s]
      by_cases z : V 8 k - 1 = 0
      · rw [if_neg (not_not_intro z), w_139_57, w_139_58, w_139_59]
        obtain ⟨q, q1, q2, q3, q4⟩ := ahe_N hv c h10
        have hf8 : Fr X (sv X 113 (24 + k) (V 8 k - 1)) := Fr_row
        obtain ⟨hs8, np8⟩ := Fr_SI hf8 hs
        have ea : aheF (sv V 8 k (V 8 k - 1)) k = aheF V k := by simp (disch := omega) only [aheF, sv_a]
        have e05 : (sv V 8 k (V 8 k - 1)) 0 5 = V 0 5 := by rw [sv_a (by decide)]
        have e2 : (sv V 8 k (V 8 k - 1)) 2 k = V 2 k := by rw [sv_a (by decide)]
        have x1 : (sv X 113 (24 + k) (V 8 k - 1)) 1 = X 1 := sv_a (by decide)
        have hnl : ¬ (0 : Int32) < V 8 k - 1 := by rw [z]; decide
        refine m_arrives (q := q) hs8.1 hs8.2.1 hk12 hm8 (VOK_of (sv_a (by decide)) (sv_a (by decide)) hw.1) (by rw [sv_s]; exact z) (by rw [ea]; exact q1) (by rw [np8]; exact q2) (by rw [np8, e2]; exact q3) (by rw [e2]; exact q4) (fun X' h1 h2 => ?_)
        rw [ea, e05, x1] at h1
        simp only [ne_thr0, app0, true_and]
        refine nx X' ?_ (Fr_tr hf8 h2)
        unfold driF
        rw [if_neg hnl]
        exact h1
      · rw [if_pos z]
        have hpos : (0 : Int32) < V 8 k - 1 := by
          have h0 : ¬ V 8 k < 0 := by intro w; exact absurd hl (Int32.lt_asymm w)
          obtain ⟨w1, w2⟩ := ic_of h0
          have w3 : 0 < (V 8 k).toNatClampNeg := by
            rw [w1, ic_z, ic_lt (by omega) w2] at hl; exact hl
          rw [w1, ic_pred w3] at z ⊢
          rw [ic_z, ic_lt (by omega) (by omega)]
          rcases Nat.eq_zero_or_pos ((V 8 k).toNatClampNeg - 1) with y | y
          · rw [y] at z; exact absurd rfl z
          · exact y
        refine nx _ ?_ Fr_row
        unfold driF
        rw [if_pos hpos]
        exact hm8
    · have es : s1F X k V = V := by unfold s1F; rw [if_neg c]
      rw [es] at nx
      have fin := nx X hm Fr_refl
      simp (disch := first | assumption | omega) only [en_139, w_139_0, w_139_1, w_139_2, w_139_5, w_139_6, w_139_7, w_139_10, w_139_11, w_139_13, w_139_14, w_139_17, w_139_20, w_139_21, w_139_24, w_139_25, w_139_26, w_139_27, w_139_28, w_139_29, w_139_33, w_139_36, w_139_38, w_139_39, w_139_40, w_139_41, w_139_42, w_139_43, w_139_44, w_139_45, w_139_46, w_139_49, w_139_51, w_139_52, w_139_53, w_139_54, w_139_57, w_139_58, w_139_59, w_139_65, w_139_68, w_139_69, w_139_71, w_139_72, w_139_75, w_139_78, w_139_79, w_139_82, w_139_83, w_139_84, w_139_85, w_139_86, w_139_89, w_139_90, w_139_93, w_139_94, w_139_95, w_139_96, w_139_99, w_139_102, w_139_103, w_139_106, w_139_107, w_139_108, w_139_109, w_139_110, w_139_111, w_139_112, w_139_115, w_139_117, w_139_118, w_139_119, w_139_120, w_139_123, w_139_124, w_139_125, w_139_128, w_139_129, w_139_132, w_139_133, w_139_136, w_139_137, w_139_138, w_139_139, w_139_140, w_139_143, w_139_145, w_139_146, w_139_147, w_139_148, w_139_151, w_139_152, w_139_155, w_139_158, w_139_159, w_139_161, w_139_162, w_139_165, w_139_168, w_139_169, w_139_172, w_139_173, w_139_174, w_139_175, w_139_176, w_139_177, w_139_180, w_139_181, w_139_182, w_139_185, w_139_188, w_139_191, h13, o1, ic_le, e, if_false, a0, a12, a24, a36, a48, a60, a72, a152, a232, a312, ic_clamp, inB_ic, e0, true_and, m6 hm, c, not_false_eq_true, if_true]
      exact fin
theorem m_minute (hs : SI X) (hm : MR X V) (hw : WI (npN X) V) (hK : ∀ X', MR X' (ticF X V) → WI (npN X) (ticF X V) → Fr X X' → K [] (hX u L xs X' Z)) : Call 139 [.ref 97] (hX u L xs X Z) K := by
  have h23 := hm.1
  simp (disch := first | assumption | omega) only [en_139, w_139_0, w_139_1, w_139_2, w_139_5, w_139_6, w_139_7, w_139_10, w_139_11, w_139_13, w_139_14, w_139_17, w_139_20, w_139_21, w_139_24, w_139_25, w_139_26, w_139_27, w_139_28, w_139_29, w_139_32, w_139_33, w_139_36, w_139_38, w_139_39, w_139_40, w_139_41, w_139_42, w_139_43, w_139_44, w_139_45, w_139_46, w_139_49, w_139_51, w_139_52, w_139_53, w_139_54, w_139_57, w_139_58, w_139_59, w_139_62, w_139_65, w_139_68, w_139_69, w_139_70, w_139_71, w_139_72, w_139_75, w_139_78, w_139_79, w_139_82, w_139_83, w_139_84, w_139_85, w_139_86, w_139_89, w_139_90, w_139_93, w_139_94, w_139_95, w_139_96, w_139_99, w_139_102, w_139_103, w_139_106, w_139_107, w_139_108, w_139_109, w_139_110, w_139_111, w_139_112, w_139_115, w_139_117, w_139_118, w_139_119, w_139_120, w_139_123, w_139_124, w_139_125, w_139_128, w_139_129, w_139_132, w_139_133, w_139_136, w_139_137, w_139_138, w_139_139, w_139_140, w_139_143, w_139_145, w_139_146, w_139_147, w_139_148, w_139_151, w_139_152, w_139_155, w_139_158, w_139_159, w_139_160, w_139_161, w_139_162, w_139_165, w_139_168, w_139_169, w_139_172, w_139_173, w_139_174, w_139_175, w_139_176, w_139_177, w_139_180, w_139_181, w_139_182, w_139_185, w_139_188, w_139_191, sv_d, h23]
  have hf0 : Fr X (sv X 97 23 (V 0 5 + 1)) := Fr_now
  obtain ⟨hs0, np0⟩ := Fr_SI hf0 hs
  refine l_min1 (nrN V) 0 _ (sv V 0 5 (V 0 5 + 1)) hs0 (MR_now hm) (by rw [np0]; exact WI_now hw) (by rw [sv05_n]; omega) (fun X1 h1 w1 n1 f1 => ?_)
  rw [lo_s1 (Fr_Lo hf0)] at h1 w1 n1
  rw [np0] at w1
  rw [sv05_n] at n1
  have g1 := Fr_tr hf0 f1
  obtain ⟨hs1, np1⟩ := Fr_SI g1 hs
  refine l_min2 (nrN V) 0 X1 _ hs1 h1 (by rw [np1]; exact w1) (by rw [n1]; omega) (fun X2 h2 w2 n2 f2 => ?_)
  rw [lo_s2 (Fr_Lo g1)] at h2 w2 n2
  rw [np1] at w2
  rw [n1] at n2
  have g2 := Fr_tr g1 f2
  obtain ⟨hs2, np2⟩ := Fr_SI g2 hs
  refine l_min3 (nrN V) 0 X2 _ hs2 h2 (by rw [np2]; exact w2) (by rw [n2]; omega) (fun X3 h3 f3 => ?_)
  rw [lo_s3 (Fr_Lo g2)] at h3
  refine hK X3 h3 ?_ (Fr_tr g2 f3)
  unfold ticF
  exact (itr_inv (f := s3F X) (I := fun W => WI (npN X) W ∧ nrN W = nrN V) (n := nrN V) (fun k W hk q => ⟨WI_s3 hs.1 q.1 (by omega), by rw [nr_of (s3_ne (by decide) (by decide) (by decide) (by decide) (by decide) (by decide) (by decide) (by decide) (by decide) (by decide))]; exact q.2⟩) (nrN V) 0 _ (by omega) ⟨w2, n2⟩).1
end
