/-! THE MODEL'S WORLD: what a line is worth, is a run held -/
section
variable {u : Nat × Nat} {L : Nat} {xs : Nat → Int32} {X : Nat → Nat → Int32} {Z : Nat → Nat → Int64} {K : List Value → AH → Prop} {V : Nat → Nat → Int32}
theorem m_partOf {r i : Nat} {nu : Int32} (hx : RdOK X) (hrr : RR X) (hm : MR X V) (ho : VOK V) (hc : CI V) (hr : r < 12) (hv : V 7 r = ic (pN V r)) (hh : pN V r < npN X) (hi : i < 6) : Call 127 [.ref 97, .int (ic i), .int (ic r)] (hX u L xs X Z) K ↔ K [.int (facF X V r (pN V r) (npN X) (nrN V) (ic (133 + i)) nu)] (hX u L xs X Z) := by
  have er : (r < 12) = True := eq_true hr
  obtain ⟨c9, c10⟩ := hc r hr
  have h23 := hm.1
  rw [en_127, w_127_0]
  unfold facF
  rcases (show i = 0 ∨ i = 1 ∨ i = 2 ∨ i = 3 ∨ i = 4 ∨ i = 5 by omega) with q | q | q | q | q | q
  · subst q
    rw [show ic 0 = (0 : Int32) from rfl, w_127_1_c0]
    simp (disch := first | assumption | omega) only [en_127, w_127_36, w_127_37, w_127_40, w_127_41, w_127_42, w_127_45, w_127_46, w_127_49, w_127_50, w_127_51, w_127_52, w_127_53, w_127_54, w_127_57, w_127_58, w_127_59, w_127_60, w_127_61, w_127_64, w_127_65, w_127_66, w_127_67, w_127_70, w_127_71, w_127_72, w_127_73, w_127_76, w_127_79, w_127_80, w_127_83, w_127_84, w_127_85, w_127_86, w_127_89, w_127_91, w_127_92, w_127_94, w_127_95, a0, a12, a24, a36, a48, a60, a72, a152, a232, a312, ic_clamp, inB_ic, er, true_and, m2 hm, show ic (133 + 0) = (133 : Int32) from rfl, if_true]
    by_cases c : V 2 r = 0 <;> simp [c, b2i]
  · subst q
    rw [show ic 1 = (1 : Int32) from rfl, w_127_1_c1]
    simp (disch := first | assumption | omega) only [en_127, w_127_36, w_127_37, w_127_40, w_127_41, w_127_42, w_127_45, w_127_46, w_127_49, w_127_50, w_127_51, w_127_52, w_127_53, w_127_54, w_127_57, w_127_58, w_127_59, w_127_60, w_127_61, w_127_64, w_127_65, w_127_66, w_127_67, w_127_70, w_127_71, w_127_72, w_127_73, w_127_76, w_127_79, w_127_80, w_127_83, w_127_84, w_127_85, w_127_86, w_127_89, w_127_91, w_127_92, w_127_94, w_127_95, a0, a12, a24, a36, a48, a60, a72, a152, a232, a312, ic_clamp, inB_ic, er, true_and, m_inside hm ho, ne_thr, app1, show (ic (133 + 1) = (133 : Int32)) = False by decide, show (ic (133 + 1) = (134 : Int32)) = True by decide, if_true, if_false, c9]
  · subst q
    rw [show ic 2 = (2 : Int32) from rfl, w_127_1_c2]
    simp (disch := first | assumption | omega) only [en_127, w_127_36, w_127_37, w_127_40, w_127_41, w_127_42, w_127_45, w_127_46, w_127_49, w_127_50, w_127_51, w_127_52, w_127_53, w_127_54, w_127_57, w_127_58, w_127_59, w_127_60, w_127_61, w_127_64, w_127_65, w_127_66, w_127_67, w_127_70, w_127_71, w_127_72, w_127_73, w_127_76, w_127_79, w_127_80, w_127_83, w_127_84, w_127_85, w_127_86, w_127_89, w_127_91, w_127_92, w_127_94, w_127_95, a0, a12, a24, a36, a48, a60, a72, a152, a232, a312, ic_clamp, inB_ic, er, true_and, m_inside hm ho, ne_thr, app1, show (ic (133 + 2) = (133 : Int32)) = False by decide, show (ic (133 + 2) = (134 : Int32)) = False by decide, show (ic (133 + 2) = (135 : Int32)) = True by decide, if_true, if_false, c10]
  · subst q
    rw [show ic 3 = (3 : Int32) from rfl, w_127_1_c3]
    simp (disch := first | assumption | omega) only [en_127, w_127_36, w_127_37, w_127_40, w_127_41, w_127_42, w_127_45, w_127_46, w_127_49, w_127_50, w_127_51, w_127_52, w_127_53, w_127_54, w_127_57, w_127_58, w_127_59, w_127_60, w_127_61, w_127_64, w_127_65, w_127_66, w_127_67, w_127_70, w_127_71, w_127_72, w_127_73, w_127_76, w_127_79, w_127_80, w_127_83, w_127_84, w_127_85, w_127_86, w_127_89, w_127_91, w_127_92, w_127_94, w_127_95, a0, a12, a24, a36, a48, a60, a72, a152, a232, a312, ic_clamp, inB_ic, er, true_and, m_lateness hrr hx hm hr hv hh, ne_thr, app1, show (ic (133 + 3) = (133 : Int32)) = False by decide, show (ic (133 + 3) = (134 : Int32)) = False by decide, show (ic (133 + 3) = (135 : Int32)) = False by decide, show (ic (133 + 3) = (136 : Int32)) = True by decide, if_true, if_false]
  · subst q
    rw [show ic 4 = (4 : Int32) from rfl, w_127_1_c4]
    simp (disch := first | assumption | omega) only [en_127, w_127_36, w_127_37, w_127_40, w_127_41, w_127_42, w_127_45, w_127_46, w_127_49, w_127_50, w_127_51, w_127_52, w_127_53, w_127_54, w_127_57, w_127_58, w_127_59, w_127_60, w_127_61, w_127_64, w_127_65, w_127_66, w_127_67, w_127_70, w_127_71, w_127_72, w_127_73, w_127_76, w_127_79, w_127_80, w_127_83, w_127_84, w_127_85, w_127_86, w_127_89, w_127_91, w_127_92, w_127_94, w_127_95, a0, a12, a24, a36, a48, a60, a72, a152, a232, a312, ic_clamp, inB_ic, er, true_and, m_isLast hm ho hr, ne_thr, app1, show (ic (133 + 4) = (133 : Int32)) = False by decide, show (ic (133 + 4) = (134 : Int32)) = False by decide, show (ic (133 + 4) = (135 : Int32)) = False by decide, show (ic (133 + 4) = (136 : Int32)) = False by decide, show (ic (133 + 4) = (137 : Int32)) = True by decide, if_true, if_false, b2i_z]
    cases exB (lasP V r) 0 (nrN V) <;> simp [b2i]
  · subst q
    rw [w_127_1_df (by decide)]
    simp (disch := first | assumption | omega | decide) only [en_127, w_127_36, w_127_37, w_127_40, w_127_41, w_127_42, w_127_45, w_127_46, w_127_49, w_127_50, w_127_51, w_127_52, w_127_53, w_127_54, w_127_57, w_127_58, w_127_59, w_127_60, w_127_61, w_127_64, w_127_65, w_127_66, w_127_67, w_127_70, w_127_71, w_127_72, w_127_73, w_127_76, w_127_79, w_127_80, w_127_83, w_127_84, w_127_85, w_127_86, w_127_89, w_127_91, w_127_92, w_127_94, w_127_95, h23, show (ic (133 + 5) = (133 : Int32)) = False by decide, show (ic (133 + 5) = (134 : Int32)) = False by decide, show (ic (133 + 5) = (135 : Int32)) = False by decide, show (ic (133 + 5) = (136 : Int32)) = False by decide, show (ic (133 + 5) = (137 : Int32)) = False by decide, show (ic (133 + 5) = (138 : Int32)) = True by decide, if_true, if_false, remI]
def isPu (kd : Int32) : Prop := kd = 128 ∨ ¬ kd < 133
def opR (kd nu o v : Int32) : Prop := (o = 1 ∧ kd = 128 ∧ nu = v) ∨ (o = 2 ∧ ∃ i, i < 6 ∧ v = ic i ∧ kd = ic (133 + i)) ∨ (o = 8 ∧ kd = 139 ∧ nu = v ∧ ∃ i, i < 8 ∧ v = ic i) ∨ (o = 3 ∧ kd = 43) ∨ (o = 4 ∧ kd = 45) ∨ (o = 5 ∧ kd = 60) ∨ (o = 6 ∧ kd = 61) ∨ (o = 7 ∧ kd = 132)
def kdF (X : Nat → Nat → Int32) (i : Nat) : Int32 := remI (X 15 i) 256
def nuF (X : Nat → Nat → Int32) (i : Nat) : Int32 := X 15 i / 256
def dpOK (X : Nat → Nat → Int32) (b m : Nat) (D : Nat → Nat) : Prop := D 0 = 0 ∧ D m = 1 ∧ ∀ j, j < m → (isPu (kdF X (b + j)) → D j < 32 ∧ D (j + 1) = D j + 1) ∧ (¬ isPu (kdF X (b + j)) → 2 ≤ D j ∧ D (j + 1) + 1 = D j)
def cdOK (X : Nat → Nat → Int32) (b m a : Nat) : Prop := (∀ j, j < m → opR (kdF X (b + j)) (nuF X (b + j)) (X 124 (a + j)) (X 125 (a + j))) ∧ X 124 (a + m) = 0 ∧ a + m < 1760 ∧ ∃ D, dpOK X b m D
theorem dp_32 {b m : Nat} {D : Nat → Nat} (h : dpOK X b m D) : ∀ j, j ≤ m → D j ≤ 32 := by
  intro j
  induction j with
  | zero => intro _; rw [h.1]; omega
  | succ j ih =>
    intro hj
    obtain ⟨q1, q2⟩ := h.2.2 j (by omega)
    by_cases c : isPu (kdF X (b + j))
    · have := q1 c; omega
    · have := q2 c; have := ih (by omega); omega
/-- the pile put anew -/
def px (X : Nat → Nat → Int32) (P : Nat → Int32) : Nat → Nat → Int32 := va_up X 129 P
section
variable {P P' : Nat → Int32}
theorem px_n {a : Nat} (h : a ≠ 129) : px X P a = X a := by simp [px, va_up, h]
theorem px_s : px X P 129 = P := by simp [px, va_up]
theorem px_d : va_up (px X P) 129 P' = px X P' := by
  funext a
  unfold px va_up
  by_cases h : a = 129 <;> simp [h]
theorem px_v : px X (X 129) = X := by
  funext a
  unfold px va_up
  by_cases h : a = 129 <;> simp [h]
theorem px_MR (h : MR X V) : MR (px X P) V := by
  obtain ⟨h1, h2, h3, h4⟩ := h
  exact ⟨by rw [px_n (by decide)]; exact h1, by rw [px_n (by decide)]; exact h2, by rw [px_n (by decide)]; exact h3, fun b j hj => by rw [px_n (mcl_lt hj).2]; exact h4 b j hj⟩
theorem px_Fr : Fr X (px X P) := ⟨fun a a1 a2 a3 => px_n a3, fun j hj => by rw [px_n (by decide)]⟩
end
/-- the cells of the class are the same -/
def Lo (X X' : Nat → Nat → Int32) : Prop := ∀ a, 0 < a ∧ a < 25 → X' a = X a
theorem Fr_Lo {X' : Nat → Nat → Int32} (h : Fr X X') : Lo X X' := fun a ha => h.1 a (by omega) (by omega) (by omega)
section
variable {X' : Nat → Nat → Int32}
theorem lo_np (h : Lo X X') : npN X' = npN X := by unfold npN; rw [h 1 (by decide)]
theorem lo_ns (h : Lo X X') : nsN X' = nsN X := by unfold nsN; rw [h 1 (by decide)]
theorem lo_ln (h : Lo X X') : lnN X' = lnN X := by unfold lnN; rw [h 11 (by decide)]
theorem lo_sz (h : Lo X X') : szN X' = szN X := by unfold szN; rw [h 11 (by decide)]
theorem lo_en (h : Lo X X') : enN X' = enN X := by funext l; unfold enN; rw [h 14 (by decide)]
theorem lo_st (h : Lo X X') : stN X' = stN X := by funext l; unfold stN; rw [lo_en h]
theorem lo_Ru (h : Lo X X') {ln sz : Nat} : RuOK X' ln sz = RuOK X ln sz := by unfold RuOK; rw [h 11 (by decide), h 14 (by decide), lo_en h]
theorem lo_Rd (h : Lo X X') : RdOK X' = RdOK X := by unfold RdOK; rw [lo_np h, lo_ns h, lo_ln h, lo_sz h, lo_Ru h, h 1 (by decide), h 2 (by decide)]
theorem lo_pas (h : Lo X X') : pasB X' = pasB X := by funext p; unfold pasB; rw [h 1 (by decide), h 3 (by decide)]
theorem lo_shu (h : Lo X X') : shuB X' = shuB X := by funext s m k; unfold shuB; rw [h 4 (by decide), h 5 (by decide), h 6 (by decide)]
theorem lo_tra (h : Lo X X') : traF X' = traF X := by funext k p n; unfold traF; rw [h 7 (by decide), h 8 (by decide)]
theorem lo_due (h : Lo X X') : dueS X' = dueS X := by funext k a; unfold dueS; rw [h 2 (by decide)]
theorem lo_late (h : Lo X X') : lateF X' = lateF X := by funext V r p np; unfold lateF; rw [lo_due h]
theorem lo_fac (h : Lo X X') : facF X' = facF X := by funext V r p np n kd nu; unfold facF; rw [lo_late h, lo_tra h]
theorem lo_stp (h : Lo X X') : stpF X' = stpF X := by funext V r p np n i a; unfold stpF; rw [lo_fac h, h 15 (by decide)]
theorem lo_val (h : Lo X X') : valF X' = valF X := by funext V r p np n l; unfold valF; rw [lo_stp h, lo_st h, lo_en h]
theorem lo_hel (h : Lo X X') {r p np n : Nat} : ∀ d k V, helF X' r p np n k d V = helF X r p np n k d V := by
  intro d
  induction d with
  | zero => intro k V; rfl
  | succ d ih => intro k V; unfold helF; rw [lo_val h, h 12 (by decide), h 13 (by decide), ih, ih]
theorem lo_fr (h : Lo X X') : frB X' = frB X := by funext V r sn np n; unfold frB; rw [lo_pas h]
theorem lo_lif (h : Lo X X') : lifF X' = lifF X := by
  funext V r
  unfold lifF
  rw [lo_shu h, lo_fr h, lo_np h, lo_ns h, lo_ln h, h 1 (by decide), h 2 (by decide), lo_hel h]
theorem lo_dri (h : Lo X X') : driF X' = driF X := by funext V r; unfold driF; rw [h 1 (by decide)]
theorem lo_s1 (h : Lo X X') : s1F X' = s1F X := by funext r V; unfold s1F; rw [lo_dri h]
theorem lo_s2 (h : Lo X X') : s2F X' = s2F X := by funext r V; unfold s2F; rw [h 1 (by decide)]
theorem lo_s3 (h : Lo X X') : s3F X' = s3F X := by funext r V; unfold s3F; rw [lo_lif h]
theorem lo_tic (h : Lo X X') : ticF X' = ticF X := by funext V; unfold ticF; rw [lo_s1 h, lo_s2 h, lo_s3 h]
end
set_option maxRecDepth 8000 in
set_option maxHeartbeats 1000000 in
theorem l_worth {r b m a : Nat} {D : Nat → Nat} {f0 : Int32} (hx : RdOK X) (hrr : RR X) (hm : MR X V) (ho : VOK V) (hc : CI V) (hr : r < 12) (hv : V 7 r = ic (pN V r)) (hh : pN V r < npN X) (h1 : ∀ j, j < m → opR (kdF X (b + j)) (nuF X (b + j)) (X 124 (a + j)) (X 125 (a + j))) (h2 : X 124 (a + m) = 0) (h3 : a + m < 1760) (hD : dpOK X b m D) : ∀ d j P S l5 l6 l7, j + d = m → (∀ t, t < D j → P t = S t) → (∀ P', K [.int ((itr (stpF X V r (pN V r) (npN X) (nrN V)) (b + j) d (D j, S)).2 0)] (hX u L xs (px X P') Z)) → WP 125 0 5 [.ref 97, .int f0, .int (ic r), .int (ic (a + j)), .int (ic (D j)), l5, l6, l7] [] (hX u L xs (px X P) Z) K := by
  intro d
  induction d with
  | zero =>
    intro j P S l5 l6 l7 hj hP hK
    have ej : j = m := by omega
    subst ej
    have ea : (a + j < 1760) = True := eq_true h3
    have e0 : (inB 0 880 = true) = True := eq_true (by decide)
    rw [w_125_5]
    simp (disch := first | assumption | omega) only [en_125, w_125_0, w_125_1, w_125_2, w_125_3, w_125_6, w_125_9, w_125_10, w_125_11, w_125_15, w_125_18, w_125_19, w_125_20, w_125_22, w_125_24, w_125_25, w_125_28, w_125_30, w_125_31, w_125_34, w_125_36, w_125_38, w_125_41, w_125_42, w_125_45, w_125_47, w_125_49, w_125_50, w_125_53, w_125_54, w_125_57, w_125_58, w_125_59, w_125_62, w_125_64, w_125_66, w_125_69, w_125_70, w_125_71, w_125_74, w_125_75, w_125_76, w_125_77, w_125_80, w_125_82, w_125_83, w_125_84, w_125_85, w_125_88, w_125_91, w_125_92, w_125_93, w_125_96, w_125_97, w_125_98, w_125_99, w_125_102, w_125_103, w_125_106, w_125_109, w_125_112, w_125_113, w_125_116, w_125_118, w_125_119, w_125_121, w_125_122, w_125_125, w_125_127, w_125_128, w_125_129, w_125_130, w_125_132, w_125_133, w_125_136, w_125_138, w_125_139, w_125_140, w_125_142, w_125_143, w_125_146, w_125_148, w_125_150, w_125_151, w_125_154, w_125_156, w_125_157, w_125_160, w_125_162, w_125_164, w_125_165, w_125_168, w_125_170, w_125_171, w_125_174, w_125_176, w_125_178, w_125_181, w_125_182, w_125_185, w_125_186, w_125_189, w_125_191, w_125_193, w_125_196, w_125_198, w_125_200, w_125_203, w_125_204, w_125_207, w_125_208, w_125_211, w_125_213, w_125_216, w_125_218, w_125_221, w_125_222, w_125_225, w_125_226, w_125_227, w_125_230, w_125_233, w_125_234, w_125_237, w_125_238, w_125_239, inB_ic, ic_clamp, ea, true_and, px_n, h2, if_true, e0, px_s]
    have := hP 0 (by rw [hD.2.1]; omega)
    rw [show Int32.toNatClampNeg 0 = 0 from rfl, this]
    exact hK P
  | succ d ih =>
    intro j P S l5 l6 l7 hj hP hK
    have ea : (a + j < 1760) = True := eq_true (by omega)
    have hmj := h1 j (by omega)
    have lo := Fr_Lo (px_Fr (X := X) (P := P))
    have d32 := dp_32 hD j (by omega)
    obtain ⟨p1, p2⟩ := hD.2.2 j (by omega)
    have et : (D j < 880) = True := eq_true (by omega)
    unfold itr at hK
    rw [show b + j + 1 = b + (j + 1) by omega] at hK
    rw [w_125_5]
    -- a value is put on the pile
    have push : ∀ (v : Int32) l5, isPu (kdF X (b + j)) → v = facF X V r (pN V r) (npN X) (nrN V) (kdF X (b + j)) (nuF X (b + j)) → WP 125 0 102 [.ref 97, .int f0, .int (ic r), .int (ic (a + j)), .int (ic (D j)), l5, l6, l7] [.int v, .int (ic (D j)), .ref 129] (hX u L xs (px X P) Z) K := by
      intro v l5 hp hv'
      obtain ⟨q1, q2⟩ := p1 hp
      have es : stpF X V r (pN V r) (npN X) (nrN V) (b + j) (D j, S) = (D (j + 1), upd S (D j) v) := by
        unfold stpF
        rw [if_pos (show remI (X 15 (b + j)) 256 = 128 ∨ ¬ remI (X 15 (b + j)) 256 < 133 from hp), if_pos (show (D j, S).1 < 32 from q1), q2, hv']
        rfl
      rw [es] at hK
      simp (disch := first | assumption | omega) only [en_125, w_125_0, w_125_1, w_125_2, w_125_3, w_125_9, w_125_10, w_125_11, w_125_15, w_125_18, w_125_19, w_125_20, w_125_22, w_125_24, w_125_25, w_125_28, w_125_30, w_125_31, w_125_34, w_125_36, w_125_38, w_125_41, w_125_42, w_125_45, w_125_47, w_125_49, w_125_50, w_125_53, w_125_54, w_125_57, w_125_58, w_125_59, w_125_62, w_125_64, w_125_66, w_125_69, w_125_70, w_125_71, w_125_74, w_125_75, w_125_76, w_125_77, w_125_80, w_125_82, w_125_83, w_125_84, w_125_85, w_125_88, w_125_91, w_125_92, w_125_93, w_125_96, w_125_97, w_125_98, w_125_99, w_125_102, w_125_103, w_125_106, w_125_109, w_125_112, w_125_113, w_125_116, w_125_118, w_125_119, w_125_121, w_125_122, w_125_125, w_125_127, w_125_128, w_125_129, w_125_130, w_125_132, w_125_133, w_125_136, w_125_138, w_125_139, w_125_140, w_125_142, w_125_143, w_125_146, w_125_148, w_125_150, w_125_151, w_125_154, w_125_156, w_125_157, w_125_160, w_125_162, w_125_164, w_125_165, w_125_168, w_125_170, w_125_171, w_125_174, w_125_176, w_125_178, w_125_181, w_125_182, w_125_185, w_125_186, w_125_189, w_125_191, w_125_193, w_125_196, w_125_198, w_125_200, w_125_203, w_125_204, w_125_207, w_125_208, w_125_211, w_125_213, w_125_216, w_125_218, w_125_221, w_125_222, w_125_225, w_125_226, w_125_227, w_125_230, w_125_233, w_125_234, w_125_237, w_125_238, w_125_239, inB_ic, ic_clamp, et, true_and, px_s, px_d, ic_add1]
      rw [← q2]
      refine ih (j + 1) _ (upd S (D j) v) l5 l6 l7 (by omega) (fun t ht => ?_) hK
      by_cases e : t = D j
      · subst e; simp [upd]
      · simp only [upd, e, if_false]
        exact hP t (by omega)
    -- two values are joined
    have join : ∀ (v : Int32) l5 l6 l7, ¬ isPu (kdF X (b + j)) → v = joiF (kdF X (b + j)) (S (D j - 2)) (S (D j - 1)) → WP 125 0 226 [.ref 97, .int f0, .int (ic r), .int (ic (a + j)), .int (ic (D j - 1)), l5, l6, l7] [.int v, .int (ic (D j - 2)), .ref 129] (hX u L xs (px X P) Z) K := by
      intro v l5 l6 l7 hp hv'
      obtain ⟨q1, q2⟩ := p2 hp
      have e2 : (D j - 2 < 880) = True := eq_true (by omega)
      have ed : D (j + 1) = D j - 1 := by omega
      have es : stpF X V r (pN V r) (npN X) (nrN V) (b + j) (D j, S) = (D (j + 1), upd S (D j - 2) v) := by
        unfold stpF
        rw [if_neg (show ¬ (remI (X 15 (b + j)) 256 = 128 ∨ ¬ remI (X 15 (b + j)) 256 < 133) from hp), if_pos (show 2 ≤ (D j, S).1 from q1), ed, hv']
        rfl
      rw [es] at hK
      simp (disch := first | assumption | omega) only [en_125, w_125_0, w_125_1, w_125_2, w_125_3, w_125_9, w_125_10, w_125_11, w_125_15, w_125_18, w_125_19, w_125_20, w_125_22, w_125_24, w_125_25, w_125_28, w_125_30, w_125_31, w_125_34, w_125_36, w_125_38, w_125_41, w_125_42, w_125_45, w_125_47, w_125_49, w_125_50, w_125_53, w_125_54, w_125_57, w_125_58, w_125_59, w_125_62, w_125_64, w_125_66, w_125_69, w_125_70, w_125_71, w_125_74, w_125_75, w_125_76, w_125_77, w_125_80, w_125_82, w_125_83, w_125_84, w_125_85, w_125_88, w_125_91, w_125_92, w_125_93, w_125_96, w_125_97, w_125_98, w_125_99, w_125_102, w_125_103, w_125_106, w_125_109, w_125_112, w_125_113, w_125_116, w_125_118, w_125_119, w_125_121, w_125_122, w_125_125, w_125_127, w_125_128, w_125_129, w_125_130, w_125_132, w_125_133, w_125_136, w_125_138, w_125_139, w_125_140, w_125_142, w_125_143, w_125_146, w_125_148, w_125_150, w_125_151, w_125_154, w_125_156, w_125_157, w_125_160, w_125_162, w_125_164, w_125_165, w_125_168, w_125_170, w_125_171, w_125_174, w_125_176, w_125_178, w_125_181, w_125_182, w_125_185, w_125_186, w_125_189, w_125_191, w_125_193, w_125_196, w_125_198, w_125_200, w_125_203, w_125_204, w_125_207, w_125_208, w_125_211, w_125_213, w_125_216, w_125_218, w_125_221, w_125_222, w_125_225, w_125_226, w_125_227, w_125_230, w_125_233, w_125_234, w_125_237, w_125_238, w_125_239, inB_ic, ic_clamp, e2, true_and, px_s, px_d, ic_add1]
      rw [← ed]
      refine ih (j + 1) _ (upd S (D j - 2) v) l5 l6 l7 (by omega) (fun t ht => ?_) hK
      by_cases e : t = D j - 2
      · subst e; simp [upd]
      · simp only [upd, e, if_false]
        exact hP t (by omega)
    have jn : ∀ o : Int32, X 124 (a + j) = o → ¬ o = 0 → ¬ o = 1 → ¬ o = 2 → ¬ o = 8 → ¬ isPu (kdF X (b + j)) → (if o = 3 then P (D j - 2) + P (D j - 1) else if o = 4 then P (D j - 2) - P (D j - 1) else if o = 5 then b2i (decide (P (D j - 2) < P (D j - 1))) else if o = 6 then b2i (decide (P (D j - 2) = P (D j - 1))) else b2i (decide (¬ P (D j - 2) = 0 ∧ ¬ P (D j - 1) = 0))) = joiF (kdF X (b + j)) (S (D j - 2)) (S (D j - 1)) → WP 125 0 6 [.ref 97, .int f0, .int (ic r), .int (ic (a + j)), .int (ic (D j)), l5, l6, l7] [.ref 97] (hX u L xs (px X P) Z) K := by
      intro o ho0 n0 n1 n2 n8 hp hv'
      obtain ⟨q1, q2⟩ := p2 hp
      have e1 : (D j - 1 < 880) = True := eq_true (by omega)
      have e2 : (D j - 2 < 880) = True := eq_true (by omega)
      have e5 : ic (D j) + -1 = ic (D j - 1) := by
        rw [show D j = (D j - 1) + 1 by omega, ic_subn]
        rfl
      have e6 : ic (D j - 1) - 1 = ic (D j - 2) := by rw [ic_pred (by omega)]; rfl
      have jj := fun l5 l6 l7 => join _ l5 l6 l7 hp hv'
      clear push join ih hK hP h1
      simp (disch := first | assumption | omega) only [en_125, w_125_0, w_125_1, w_125_2, w_125_3, w_125_6, w_125_9, w_125_10, w_125_11, w_125_14, w_125_15, w_125_18, w_125_19, w_125_20, w_125_22, w_125_24, w_125_25, w_125_28, w_125_30, w_125_31, w_125_34, w_125_36, w_125_38, w_125_42, w_125_45, w_125_47, w_125_49, w_125_50, w_125_53, w_125_54, w_125_57, w_125_58, w_125_59, w_125_62, w_125_64, w_125_66, w_125_69, w_125_70, w_125_71, w_125_74, w_125_75, w_125_76, w_125_77, w_125_80, w_125_82, w_125_83, w_125_84, w_125_85, w_125_88, w_125_91, w_125_92, w_125_93, w_125_96, w_125_97, w_125_98, w_125_99, w_125_102, w_125_103, w_125_106, w_125_109, w_125_112, w_125_113, w_125_116, w_125_118, w_125_119, w_125_121, w_125_122, w_125_125, w_125_127, w_125_128, w_125_129, w_125_130, w_125_132, w_125_133, w_125_136, w_125_138, w_125_139, w_125_140, w_125_142, w_125_143, w_125_146, w_125_148, w_125_150, w_125_151, w_125_154, w_125_156, w_125_157, w_125_160, w_125_162, w_125_164, w_125_165, w_125_168, w_125_170, w_125_171, w_125_174, w_125_176, w_125_178, w_125_181, w_125_182, w_125_185, w_125_186, w_125_189, w_125_191, w_125_193, w_125_196, w_125_198, w_125_200, w_125_203, w_125_204, w_125_207, w_125_208, w_125_211, w_125_213, w_125_216, w_125_218, w_125_221, w_125_222, w_125_225, w_125_227, w_125_230, w_125_234, w_125_237, w_125_238, w_125_239, inB_ic, ic_clamp, ea, true_and, px_n, ho0, n0, n1, n2, n8, if_false, not_false_eq_true, if_true, e5, e6, e1, e2, px_s]
      by_cases c3 : o = 3
      · simp only [c3, if_true, not_true_eq_false, if_false] at jj ⊢
        exact jj _ _ _
      · by_cases c4 : o = 4
        · simp only [c3, c4, if_true, not_true_eq_false, not_false_eq_true, if_false, show ((4 : Int32) = 3) = False by decide] at jj ⊢
          exact jj _ _ _
        · by_cases c5 : o = 5
          · simp only [c3, c4, c5, if_true, not_true_eq_false, not_false_eq_true, if_false, show ((5 : Int32) = 3) = False by decide, show ((5 : Int32) = 4) = False by decide, nle] at jj ⊢
            by_cases z : P (D j - 2) < P (D j - 1)
            · simp only [z, not_true_eq_false, if_false, decide_true, b2i_t] at jj ⊢; exact jj _ _ _
            · simp only [z, not_false_eq_true, if_true, decide_false, b2i_f] at jj ⊢; exact jj _ _ _
          · by_cases c6 : o = 6
            · simp only [c3, c4, c5, c6, if_true, not_true_eq_false, not_false_eq_true, if_false, show ((6 : Int32) = 3) = False by decide, show ((6 : Int32) = 4) = False by decide, show ((6 : Int32) = 5) = False by decide] at jj ⊢
              by_cases z : P (D j - 2) = P (D j - 1)
              · simp only [z, not_true_eq_false, if_false, decide_true, b2i_t] at jj ⊢; exact jj _ _ _
              · simp only [z, not_false_eq_true, if_true, decide_false, b2i_f] at jj ⊢; exact jj _ _ _
            · simp only [c3, c4, c5, c6, if_true, not_true_eq_false, not_false_eq_true, if_false] at jj ⊢
              by_cases z : P (D j - 2) = 0
              · simp only [z, not_true_eq_false, if_true, false_and, decide_false, b2i_f] at jj ⊢; exact jj _ _ _
              · by_cases z2 : P (D j - 1) = 0
                · simp only [z, z2, not_true_eq_false, if_true, if_false, and_false, decide_false, b2i_f] at jj ⊢; exact jj _ _ _
                · simp only [z, z2, not_false_eq_true, if_true, if_false, and_self, decide_true, b2i_t] at jj ⊢; exact jj _ _ _
    have pe : ¬ isPu (kdF X (b + j)) → P (D j - 2) = S (D j - 2) ∧ P (D j - 1) = S (D j - 1) := fun hp => ⟨hP _ (by have := p2 hp; omega), hP _ (by have := p2 hp; omega)⟩
    have ok : ∀ (c : Int32), kdF X (b + j) = c → ¬ c = 128 → c < 133 → ¬ isPu (kdF X (b + j)) := by
      intro c e n1 n2 hp
      rw [e] at hp
      rcases hp with z | z
      · exact n1 z
      · exact z n2
    rcases hmj with ⟨o, kd, nu⟩ | ⟨o, i, hi, hv', kd⟩ | ⟨o, kd, nu, i, hi, hv'⟩ | ⟨o, kd⟩ | ⟨o, kd⟩ | ⟨o, kd⟩ | ⟨o, kd⟩ | ⟨o, kd⟩
    · have hp : isPu (kdF X (b + j)) := Or.inl kd
      have fin := push (X 125 (a + j)) (.int 1) hp (by rw [kd, nu]; unfold facF; simp)
      clear push join jn ih hK ok pe hP h1
      simp (disch := first | assumption | omega) only [en_125, w_125_0, w_125_1, w_125_2, w_125_3, w_125_6, w_125_9, w_125_10, w_125_11, w_125_14, w_125_15, w_125_18, w_125_19, w_125_20, w_125_22, w_125_24, w_125_25, w_125_30, w_125_31, w_125_34, w_125_36, w_125_38, w_125_41, w_125_42, w_125_45, w_125_47, w_125_49, w_125_50, w_125_53, w_125_54, w_125_57, w_125_58, w_125_59, w_125_64, w_125_66, w_125_69, w_125_70, w_125_71, w_125_74, w_125_75, w_125_76, w_125_77, w_125_80, w_125_82, w_125_83, w_125_84, w_125_85, w_125_88, w_125_91, w_125_92, w_125_93, w_125_96, w_125_97, w_125_98, w_125_99, w_125_103, w_125_106, w_125_112, w_125_113, w_125_116, w_125_118, w_125_119, w_125_121, w_125_122, w_125_125, w_125_127, w_125_128, w_125_129, w_125_130, w_125_132, w_125_133, w_125_136, w_125_138, w_125_139, w_125_140, w_125_142, w_125_143, w_125_146, w_125_148, w_125_150, w_125_151, w_125_154, w_125_156, w_125_157, w_125_160, w_125_162, w_125_164, w_125_165, w_125_168, w_125_170, w_125_171, w_125_174, w_125_176, w_125_178, w_125_181, w_125_182, w_125_185, w_125_186, w_125_189, w_125_191, w_125_193, w_125_196, w_125_198, w_125_200, w_125_203, w_125_204, w_125_207, w_125_208, w_125_211, w_125_213, w_125_216, w_125_218, w_125_221, w_125_222, w_125_225, w_125_226, w_125_227, w_125_230, w_125_234, w_125_237, w_125_238, w_125_239, inB_ic, ic_clamp, ea, true_and, px_n, o, eq_self, show ((1 : Int32) = 0) = False by decide, if_false, if_true, not_true_eq_false]
      exact fin
    · have hp : isPu (kdF X (b + j)) := Or.inr (by rw [kd, show (133 : Int32) = ic 133 from rfl, ic_lt (by omega) (by omega)]; omega)
      have fin := push _ (.int 2) hp rfl
      rw [kd] at fin
      clear push join jn ih hK ok pe hP h1
      have mp := fun K => m_partOf (u := u) (L := L) (xs := xs) (Z := Z) (K := K) (nu := nuF X (b + j)) (i := i) (X := px X P) (r := r) (V := V) (by rw [lo_Rd lo]; exact hx) (Fr_RR px_Fr hrr) (px_MR hm) ho hc hr hv (by rw [lo_np lo]; exact hh) hi
      simp only [lo_fac lo, lo_np lo] at mp
      simp (disch := first | assumption | omega) only [en_125, w_125_0, w_125_1, w_125_2, w_125_3, w_125_6, w_125_9, w_125_10, w_125_11, w_125_14, w_125_15, w_125_18, w_125_19, w_125_20, w_125_22, w_125_24, w_125_25, w_125_28, w_125_30, w_125_31, w_125_36, w_125_38, w_125_41, w_125_42, w_125_45, w_125_47, w_125_49, w_125_50, w_125_54, w_125_57, w_125_58, w_125_59, w_125_62, w_125_64, w_125_66, w_125_70, w_125_71, w_125_74, w_125_75, w_125_76, w_125_77, w_125_80, w_125_82, w_125_83, w_125_84, w_125_85, w_125_88, w_125_91, w_125_92, w_125_93, w_125_96, w_125_97, w_125_98, w_125_99, w_125_103, w_125_106, w_125_112, w_125_113, w_125_116, w_125_118, w_125_119, w_125_121, w_125_122, w_125_125, w_125_127, w_125_128, w_125_129, w_125_130, w_125_132, w_125_133, w_125_136, w_125_138, w_125_139, w_125_140, w_125_142, w_125_143, w_125_146, w_125_148, w_125_150, w_125_151, w_125_154, w_125_156, w_125_157, w_125_160, w_125_162, w_125_164, w_125_165, w_125_168, w_125_170, w_125_171, w_125_174, w_125_176, w_125_178, w_125_181, w_125_182, w_125_185, w_125_186, w_125_189, w_125_191, w_125_193, w_125_196, w_125_198, w_125_200, w_125_203, w_125_204, w_125_207, w_125_208, w_125_211, w_125_213, w_125_216, w_125_218, w_125_221, w_125_222, w_125_225, w_125_226, w_125_227, w_125_230, w_125_234, w_125_237, w_125_238, w_125_239, inB_ic, ic_clamp, ea, true_and, px_n, o, eq_self, show ((2 : Int32) = 0) = False by decide, show ((2 : Int32) = 1) = False by decide, show ((2 : Int32) = 8) = False by decide, if_false, if_true, not_true_eq_false, not_false_eq_true, hv', mp, ne_thr, app1, List.cons_append, List.nil_append]
      exact fin
    · have hp : isPu (kdF X (b + j)) := Or.inr (by rw [kd]; decide)
      have fin := push (traF X (ic i) (V 7 r) (V 0 5)) (.int 8) hp (by rw [kd, nu, hv']; unfold facF; simp)
      clear push join jn ih hK ok pe hP h1
      have e12 : (12 + r < 392) = True := eq_true (by omega)
      have mp := fun K => m_trainIn (u := u) (L := L) (xs := xs) (Z := Z) (K := K) (k := i) (p := V 7 r) (X := px X P) (Fr_RR px_Fr hrr) (px_MR hm) hi
      simp only [lo_tra lo] at mp
      have p7 : px X P 113 (12 + r) = V 7 r := m7 (px_MR hm) hr
      simp (disch := first | assumption | omega) only [en_125, w_125_0, w_125_1, w_125_2, w_125_3, w_125_6, w_125_9, w_125_10, w_125_11, w_125_14, w_125_15, w_125_18, w_125_19, w_125_20, w_125_22, w_125_24, w_125_25, w_125_28, w_125_30, w_125_31, w_125_34, w_125_36, w_125_38, w_125_41, w_125_42, w_125_45, w_125_47, w_125_49, w_125_50, w_125_54, w_125_57, w_125_58, w_125_59, w_125_62, w_125_64, w_125_66, w_125_69, w_125_70, w_125_71, w_125_74, w_125_75, w_125_76, w_125_77, w_125_80, w_125_82, w_125_83, w_125_84, w_125_85, w_125_88, w_125_92, w_125_93, w_125_96, w_125_97, w_125_98, w_125_99, w_125_103, w_125_106, w_125_112, w_125_113, w_125_116, w_125_118, w_125_119, w_125_121, w_125_122, w_125_125, w_125_127, w_125_128, w_125_129, w_125_130, w_125_132, w_125_133, w_125_136, w_125_138, w_125_139, w_125_140, w_125_142, w_125_143, w_125_146, w_125_148, w_125_150, w_125_151, w_125_154, w_125_156, w_125_157, w_125_160, w_125_162, w_125_164, w_125_165, w_125_168, w_125_170, w_125_171, w_125_174, w_125_176, w_125_178, w_125_181, w_125_182, w_125_185, w_125_186, w_125_189, w_125_191, w_125_193, w_125_196, w_125_198, w_125_200, w_125_203, w_125_204, w_125_207, w_125_208, w_125_211, w_125_213, w_125_216, w_125_218, w_125_221, w_125_222, w_125_225, w_125_226, w_125_227, w_125_230, w_125_234, w_125_237, w_125_238, w_125_239, a0, a12, a24, a36, a48, a60, a72, a152, a232, a312, ic_clamp, inB_ic, ea, e12, true_and, p7, px_n, o, eq_self, show ((8 : Int32) = 0) = False by decide, show ((8 : Int32) = 1) = False by decide, show ((8 : Int32) = 2) = False by decide, if_false, if_true, not_true_eq_false, not_false_eq_true, hv', m7 hm, mp, ne_thr, app1, List.cons_append, List.nil_append]
      exact fin
    · have hp := ok 43 kd (by decide) (by decide)
      obtain ⟨z1, z2⟩ := pe hp
      exact jn 3 o (by decide) (by decide) (by decide) (by decide) hp (by rw [kd, z1, z2]; rfl)
    · have hp := ok 45 kd (by decide) (by decide)
      obtain ⟨z1, z2⟩ := pe hp
      exact jn 4 o (by decide) (by decide) (by decide) (by decide) hp (by rw [kd, z1, z2]; rfl)
    · have hp := ok 60 kd (by decide) (by decide)
      obtain ⟨z1, z2⟩ := pe hp
      exact jn 5 o (by decide) (by decide) (by decide) (by decide) hp (by rw [kd, z1, z2]; rfl)
    · have hp := ok 61 kd (by decide) (by decide)
      obtain ⟨z1, z2⟩ := pe hp
      exact jn 6 o (by decide) (by decide) (by decide) (by decide) hp (by rw [kd, z1, z2]; rfl)
    · have hp := ok 132 kd (by decide) (by decide)
      obtain ⟨z1, z2⟩ := pe hp
      exact jn 7 o (by decide) (by decide) (by decide) (by decide) hp (by rw [kd, z1, z2]; rfl)
end
