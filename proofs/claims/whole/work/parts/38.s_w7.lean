/-! THE WORLD'S METHODS: a minute, many minutes -/
section
variable {u : Nat × Nat} {L : Nat} {xs : Nat → Int32} {X : Nat → Nat → Int32} {Z : Nat → Nat → Int64} {K : List Value → AH → Prop} {w : Nat} {V V' : Nat → Nat → Int32}
theorem s1_1 {r : Nat} : s1F X r V 1 = V 1 := by
  unfold s1F
  split
  · exact dri_ne (by decide) (by decide) (by decide) (by decide) (by decide) (by decide) (by decide) (by decide) (by decide)
  · rfl
theorem s2_1 {r : Nat} : s2F X r V 1 = V 1 := by
  unfold s2F
  split
  · exact sta_ne (by decide) (by decide) (by decide) (by decide)
  · rfl
theorem lif_ne {r a : Nat} (h1 : a ≠ 6) (h2 : a ≠ 13) (h3 : a ≠ 8) (h4 : a ≠ 23) : lifF X V r a = V a := by
  unfold lifF
  repeat' split
  · rfl
  · exact helF_ne h4 _ _ _
  · rw [lea_ne h1 h2 h3, helF_ne h4]
  · rfl
theorem s3_ne {r a : Nat} (h1 : a ≠ 6) (h2 : a ≠ 13) (h3 : a ≠ 8) (h4 : a ≠ 23) (h5 : a ≠ 9) (h6 : a ≠ 10) (h7 : a ≠ 11) (h8 : a ≠ 19) (h9 : a ≠ 20) (h0 : a ≠ 22) : s3F X r V a = V a := by
  unfold s3F
  split
  · rw [lif_ne h1 h2 h3 h4, takF_ne h5 h6 h7 h8 h9 h0]
  · rfl
theorem nr_of (h : V' 1 = V 1) : nrN V' = nrN V := by unfold nrN; rw [h]
set_option maxRecDepth 8000 in
theorem l_tick3 (hw : isWd w) (hx : RdOK X) : ∀ d k V, VOK V → VI (npN X) V → k + d = nrN V → (WP 62 0 133 [.ref (w + 0), .int (ic k)] [] (hW u L xs X Z w V) K ↔ K [] (hW u L xs X Z w (itr (s3F X) k d V))) := by
  intro d
  induction d with
  | zero =>
    intro k V ho hi hk
    have hn := ho.1
    have h12 := ho.2.1
    have e : (nrN V ≤ k) = True := eq_true (by omega)
    rw [w_62_133]
    simp (disch := first | assumption | omega) only [en_62, w_62_0, w_62_1, w_62_2, w_62_5, w_62_6, w_62_7, w_62_10, w_62_11, w_62_12, w_62_13, w_62_14, w_62_17, w_62_20, w_62_23, w_62_24, w_62_27, w_62_30, w_62_31, w_62_32, w_62_33, w_62_36, w_62_37, w_62_38, w_62_41, w_62_44, w_62_47, w_62_48, w_62_49, w_62_50, w_62_51, w_62_54, w_62_57, w_62_60, w_62_61, w_62_64, w_62_67, w_62_68, w_62_69, w_62_72, w_62_73, w_62_76, w_62_79, w_62_80, w_62_81, w_62_82, w_62_85, w_62_88, w_62_89, w_62_92, w_62_93, w_62_94, w_62_97, w_62_100, w_62_101, w_62_102, w_62_105, w_62_106, w_62_109, w_62_110, w_62_113, w_62_116, w_62_117, w_62_118, w_62_119, w_62_122, w_62_125, w_62_128, w_62_131, w_62_132, w_62_134, w_62_135, w_62_138, w_62_141, w_62_145, w_62_148, w_62_151, w_62_152, w_62_153, w_62_154, w_62_157, w_62_158, w_62_159, w_62_162, w_62_163, w_62_164, w_62_167, w_62_170, w_62_173, hn, ic_le, e, if_true, itr]
  | succ d ih =>
    intro k V ho hi hk
    have hn := ho.1
    have h12 := ho.2.1
    have e : (nrN V ≤ k) = False := eq_false (by omega)
    have hk12 : k < 12 := by omega
    have e2 : (k < 12) = True := eq_true hk12
    rw [w_62_133]
    have g := VI_s3 (r := k) hx ho hi (by omega)
    have q := ih (k + 1) (s3F X k V) g.1 g.2 (by rw [nr_of (s3_ne (by decide) (by decide) (by decide) (by decide) (by decide) (by decide) (by decide) (by decide) (by decide) (by decide))]; omega)
    unfold itr
    by_cases c : V 6 k = 1
    · have t := fun a h1 h2 h3 h4 h5 h6 => takF_ne (V := V) (r := k) (a := a) h1 h2 h3 h4 h5 h6
      have ep : pN (takF V k) k = pN V k := by unfold pN; rw [t 7 (by decide) (by decide) (by decide) (by decide) (by decide) (by decide)]
      obtain ⟨a1, a2, _⟩ := (hi.2.1 k (by omega)).1 (Or.inl c)
      have g1 := fun K => c_leaveIfFree (u := u) (L := L) (xs := xs) (Z := Z) (K := K) hw hk12 hx (VOK_of (V' := takF V k) (t 1 (by decide) (by decide) (by decide) (by decide) (by decide) (by decide)) (t 14 (by decide) (by decide) (by decide) (by decide) (by decide) (by decide)) ho) (by rw [ep, t 7 (by decide) (by decide) (by decide) (by decide) (by decide) (by decide)]; exact a1) (by rw [ep]; exact a2)
      have g2 := fun K => c_takeIn (u := u) (L := L) (xs := xs) (X := X) (Z := Z) (K := K) hw hk12 ho.2.2.2 ho.2.2.1
      unfold s3F at q ⊢
      simp (disch := first | assumption | omega) only [en_62, w_62_0, w_62_1, w_62_2, w_62_5, w_62_6, w_62_7, w_62_10, w_62_11, w_62_12, w_62_13, w_62_14, w_62_17, w_62_20, w_62_23, w_62_24, w_62_27, w_62_30, w_62_31, w_62_32, w_62_33, w_62_36, w_62_37, w_62_38, w_62_41, w_62_44, w_62_47, w_62_48, w_62_49, w_62_50, w_62_51, w_62_54, w_62_57, w_62_60, w_62_61, w_62_64, w_62_67, w_62_68, w_62_69, w_62_72, w_62_73, w_62_76, w_62_79, w_62_80, w_62_81, w_62_82, w_62_85, w_62_88, w_62_89, w_62_92, w_62_93, w_62_94, w_62_97, w_62_100, w_62_101, w_62_102, w_62_105, w_62_106, w_62_109, w_62_110, w_62_113, w_62_116, w_62_117, w_62_118, w_62_119, w_62_122, w_62_125, w_62_128, w_62_131, w_62_132, w_62_134, w_62_135, w_62_138, w_62_141, w_62_144, w_62_145, w_62_148, w_62_151, w_62_152, w_62_153, w_62_154, w_62_157, w_62_158, w_62_159, w_62_162, w_62_163, w_62_164, w_62_167, w_62_170, w_62_173, hn, ic_le, e, if_false, ic_clamp, inB_ic, e2, true_and, c, not_true_eq_false, if_true, g2, g1, ne_thr0, app0, ic_add1] at q ⊢
      exact q
    · unfold s3F at q ⊢
      simp (disch := first | assumption | omega) only [en_62, w_62_0, w_62_1, w_62_2, w_62_5, w_62_6, w_62_7, w_62_10, w_62_11, w_62_12, w_62_13, w_62_14, w_62_17, w_62_20, w_62_23, w_62_24, w_62_27, w_62_30, w_62_31, w_62_32, w_62_33, w_62_36, w_62_37, w_62_38, w_62_41, w_62_44, w_62_47, w_62_48, w_62_49, w_62_50, w_62_51, w_62_54, w_62_57, w_62_60, w_62_61, w_62_64, w_62_67, w_62_68, w_62_69, w_62_72, w_62_73, w_62_76, w_62_79, w_62_80, w_62_81, w_62_82, w_62_85, w_62_88, w_62_89, w_62_92, w_62_93, w_62_94, w_62_97, w_62_100, w_62_101, w_62_102, w_62_105, w_62_106, w_62_109, w_62_110, w_62_113, w_62_116, w_62_117, w_62_118, w_62_119, w_62_122, w_62_125, w_62_128, w_62_131, w_62_132, w_62_134, w_62_135, w_62_138, w_62_141, w_62_144, w_62_145, w_62_148, w_62_151, w_62_152, w_62_153, w_62_154, w_62_158, w_62_159, w_62_162, w_62_163, w_62_164, w_62_167, w_62_170, w_62_173, hn, ic_le, e, if_false, ic_clamp, inB_ic, e2, true_and, c, not_false_eq_true, if_true, ic_add1] at q ⊢
      exact q
set_option maxRecDepth 8000 in
theorem l_tick2 (hw : isWd w) (hx : RdOK X) : ∀ d k V, VOK V → VI (npN X) V → k + d = nrN V → (WP 62 0 49 [.ref (w + 0), .int (ic k)] [] (hW u L xs X Z w V) K ↔ WP 62 0 133 [.ref (w + 0), .int 0] [] (hW u L xs X Z w (itr (s2F X) k d V)) K) := by
  intro d
  induction d with
  | zero =>
    intro k V ho hi hk
    have hn := ho.1
    have h12 := ho.2.1
    have e : (nrN V ≤ k) = True := eq_true (by omega)
    rw [w_62_49]
    simp (disch := first | assumption | omega) only [en_62, w_62_0, w_62_1, w_62_2, w_62_5, w_62_6, w_62_7, w_62_10, w_62_11, w_62_12, w_62_13, w_62_14, w_62_17, w_62_20, w_62_23, w_62_24, w_62_27, w_62_30, w_62_31, w_62_32, w_62_33, w_62_36, w_62_37, w_62_38, w_62_41, w_62_44, w_62_47, w_62_48, w_62_50, w_62_51, w_62_54, w_62_57, w_62_61, w_62_64, w_62_67, w_62_68, w_62_69, w_62_72, w_62_73, w_62_76, w_62_79, w_62_80, w_62_81, w_62_82, w_62_85, w_62_88, w_62_89, w_62_92, w_62_93, w_62_94, w_62_97, w_62_100, w_62_101, w_62_102, w_62_105, w_62_106, w_62_109, w_62_110, w_62_113, w_62_116, w_62_117, w_62_118, w_62_119, w_62_122, w_62_125, w_62_128, w_62_131, w_62_132, w_62_134, w_62_135, w_62_138, w_62_141, w_62_144, w_62_145, w_62_148, w_62_151, w_62_152, w_62_153, w_62_154, w_62_157, w_62_158, w_62_159, w_62_162, w_62_163, w_62_164, w_62_167, w_62_170, w_62_173, hn, ic_le, e, if_true, itr]
  | succ d ih =>
    intro k V ho hi hk
    have hn := ho.1
    have h12 := ho.2.1
    have e : (nrN V ≤ k) = False := eq_false (by omega)
    have hk12 : k < 12 := by omega
    have e2 : (k < 12) = True := eq_true hk12
    rw [w_62_49]
    have g := VI_s2 (r := k) hx ho hi (by omega)
    have q := ih (k + 1) (s2F X k V) g.1 g.2 (by rw [nr_of s2_1]; omega)
    unfold itr
    unfold s2F at q ⊢
    by_cases c : V 6 k = 0
    · by_cases c2 : V 0 5 < V 5 k
      · simp (disch := first | assumption | omega) only [en_62, w_62_0, w_62_1, w_62_2, w_62_5, w_62_6, w_62_7, w_62_10, w_62_11, w_62_13, w_62_14, w_62_17, w_62_20, w_62_23, w_62_24, w_62_27, w_62_30, w_62_31, w_62_32, w_62_33, w_62_36, w_62_37, w_62_38, w_62_41, w_62_44, w_62_47, w_62_48, w_62_50, w_62_51, w_62_54, w_62_57, w_62_60, w_62_61, w_62_64, w_62_67, w_62_68, w_62_69, w_62_72, w_62_73, w_62_76, w_62_79, w_62_80, w_62_81, w_62_82, w_62_85, w_62_89, w_62_92, w_62_93, w_62_94, w_62_97, w_62_100, w_62_101, w_62_102, w_62_105, w_62_106, w_62_109, w_62_110, w_62_113, w_62_116, w_62_117, w_62_118, w_62_119, w_62_122, w_62_125, w_62_128, w_62_132, w_62_134, w_62_135, w_62_138, w_62_141, w_62_144, w_62_145, w_62_148, w_62_151, w_62_152, w_62_153, w_62_154, w_62_157, w_62_158, w_62_159, w_62_162, w_62_163, w_62_164, w_62_167, w_62_170, w_62_173, hn, ic_le, e, if_false, ic_clamp, inB_ic, e2, true_and, ne_thr0, app0, ic_add1, c_stand hw hk12, c, c2, not_true_eq_false, not_false_eq_true, if_true, and_self, and_false, false_and] at q ⊢
        exact q
      · by_cases c3 : V 2 k = 0
        · simp (disch := first | assumption | omega) only [en_62, w_62_0, w_62_1, w_62_2, w_62_5, w_62_6, w_62_7, w_62_10, w_62_11, w_62_13, w_62_14, w_62_17, w_62_20, w_62_23, w_62_24, w_62_27, w_62_30, w_62_31, w_62_32, w_62_33, w_62_36, w_62_37, w_62_38, w_62_41, w_62_44, w_62_47, w_62_48, w_62_50, w_62_51, w_62_54, w_62_57, w_62_60, w_62_61, w_62_64, w_62_67, w_62_68, w_62_69, w_62_72, w_62_73, w_62_76, w_62_79, w_62_80, w_62_81, w_62_82, w_62_85, w_62_88, w_62_89, w_62_92, w_62_93, w_62_94, w_62_97, w_62_100, w_62_101, w_62_102, w_62_105, w_62_106, w_62_109, w_62_110, w_62_113, w_62_116, w_62_117, w_62_118, w_62_119, w_62_122, w_62_125, w_62_128, w_62_132, w_62_134, w_62_135, w_62_138, w_62_141, w_62_144, w_62_145, w_62_148, w_62_151, w_62_152, w_62_153, w_62_154, w_62_157, w_62_158, w_62_159, w_62_162, w_62_163, w_62_164, w_62_167, w_62_170, w_62_173, hn, ic_le, e, if_false, ic_clamp, inB_ic, e2, true_and, ne_thr0, app0, ic_add1, c_stand hw hk12, c, c2, c3, not_true_eq_false, not_false_eq_true, if_true, and_self, and_false, false_and] at q ⊢
          exact q
        · simp (disch := first | assumption | omega) only [en_62, w_62_0, w_62_1, w_62_2, w_62_5, w_62_6, w_62_7, w_62_10, w_62_11, w_62_13, w_62_14, w_62_17, w_62_20, w_62_23, w_62_24, w_62_27, w_62_30, w_62_31, w_62_32, w_62_33, w_62_36, w_62_37, w_62_38, w_62_41, w_62_44, w_62_47, w_62_48, w_62_50, w_62_51, w_62_54, w_62_57, w_62_60, w_62_61, w_62_64, w_62_67, w_62_68, w_62_69, w_62_72, w_62_73, w_62_76, w_62_79, w_62_80, w_62_81, w_62_82, w_62_85, w_62_88, w_62_89, w_62_92, w_62_93, w_62_94, w_62_97, w_62_100, w_62_101, w_62_102, w_62_105, w_62_106, w_62_109, w_62_110, w_62_113, w_62_116, w_62_117, w_62_118, w_62_119, w_62_122, w_62_125, w_62_128, w_62_132, w_62_134, w_62_135, w_62_138, w_62_141, w_62_144, w_62_145, w_62_148, w_62_151, w_62_152, w_62_153, w_62_154, w_62_157, w_62_158, w_62_159, w_62_162, w_62_163, w_62_164, w_62_167, w_62_170, w_62_173, hn, ic_le, e, if_false, ic_clamp, inB_ic, e2, true_and, ne_thr0, app0, ic_add1, c_stand hw hk12, c, c2, c3, not_true_eq_false, not_false_eq_true, if_true, and_self, and_false, false_and] at q ⊢
          exact q
    · simp (disch := first | assumption | omega) only [en_62, w_62_0, w_62_1, w_62_2, w_62_5, w_62_6, w_62_7, w_62_10, w_62_11, w_62_13, w_62_14, w_62_17, w_62_20, w_62_23, w_62_24, w_62_27, w_62_30, w_62_31, w_62_32, w_62_33, w_62_36, w_62_37, w_62_38, w_62_41, w_62_44, w_62_47, w_62_48, w_62_50, w_62_51, w_62_54, w_62_57, w_62_60, w_62_61, w_62_64, w_62_67, w_62_68, w_62_69, w_62_73, w_62_76, w_62_79, w_62_80, w_62_81, w_62_82, w_62_85, w_62_88, w_62_89, w_62_92, w_62_93, w_62_94, w_62_97, w_62_100, w_62_101, w_62_102, w_62_105, w_62_106, w_62_109, w_62_110, w_62_113, w_62_116, w_62_117, w_62_118, w_62_119, w_62_122, w_62_125, w_62_128, w_62_132, w_62_134, w_62_135, w_62_138, w_62_141, w_62_144, w_62_145, w_62_148, w_62_151, w_62_152, w_62_153, w_62_154, w_62_157, w_62_158, w_62_159, w_62_162, w_62_163, w_62_164, w_62_167, w_62_170, w_62_173, hn, ic_le, e, if_false, ic_clamp, inB_ic, e2, true_and, ne_thr0, app0, ic_add1, c_stand hw hk12, c, not_true_eq_false, not_false_eq_true, if_true, and_self, and_false, false_and] at q ⊢
      exact q
set_option maxRecDepth 8000 in
theorem l_tick1 (hw : isWd w) (hx : RdOK X) : ∀ d k V, VOK V → VI (npN X) V → k + d = nrN V → (WP 62 0 12 [.ref (w + 0), .int (ic k)] [] (hW u L xs X Z w V) K ↔ WP 62 0 49 [.ref (w + 0), .int 0] [] (hW u L xs X Z w (itr (s1F X) k d V)) K) := by
  intro d
  induction d with
  | zero =>
    intro k V ho hi hk
    have hn := ho.1
    have h12 := ho.2.1
    have e : (nrN V ≤ k) = True := eq_true (by omega)
    rw [w_62_12]
    simp (disch := first | assumption | omega) only [en_62, w_62_0, w_62_1, w_62_2, w_62_5, w_62_6, w_62_7, w_62_10, w_62_11, w_62_13, w_62_14, w_62_17, w_62_20, w_62_24, w_62_27, w_62_30, w_62_31, w_62_32, w_62_33, w_62_36, w_62_37, w_62_38, w_62_41, w_62_44, w_62_47, w_62_48, w_62_50, w_62_51, w_62_54, w_62_57, w_62_60, w_62_61, w_62_64, w_62_67, w_62_68, w_62_69, w_62_72, w_62_73, w_62_76, w_62_79, w_62_80, w_62_81, w_62_82, w_62_85, w_62_88, w_62_89, w_62_92, w_62_93, w_62_94, w_62_97, w_62_100, w_62_101, w_62_102, w_62_105, w_62_106, w_62_109, w_62_110, w_62_113, w_62_116, w_62_117, w_62_118, w_62_119, w_62_122, w_62_125, w_62_128, w_62_131, w_62_132, w_62_133, w_62_134, w_62_135, w_62_138, w_62_141, w_62_144, w_62_145, w_62_148, w_62_151, w_62_152, w_62_153, w_62_154, w_62_157, w_62_158, w_62_159, w_62_162, w_62_163, w_62_164, w_62_167, w_62_170, w_62_173, hn, ic_le, e, if_true, itr]
  | succ d ih =>
    intro k V ho hi hk
    have hn := ho.1
    have h12 := ho.2.1
    have e : (nrN V ≤ k) = False := eq_false (by omega)
    have hk12 : k < 12 := by omega
    have e2 : (k < 12) = True := eq_true hk12
    rw [w_62_12]
    have g := VI_s1 (r := k) hx ho hi (by omega)
    have q := ih (k + 1) (s1F X k V) g.1 g.2 (by rw [nr_of s1_1]; omega)
    unfold itr
    have g2 := fun K => c_driveOn (u := u) (L := L) (xs := xs) (X := X) (Z := Z) (K := K) hw hk12 ho.2.2.1 ho.2.2.2
    unfold s1F at q ⊢
    by_cases c : V 6 k = 2
    · simp (disch := first | assumption | omega) only [en_62, w_62_0, w_62_1, w_62_2, w_62_5, w_62_6, w_62_7, w_62_10, w_62_11, w_62_13, w_62_14, w_62_17, w_62_20, w_62_23, w_62_24, w_62_27, w_62_30, w_62_31, w_62_32, w_62_33, w_62_36, w_62_37, w_62_38, w_62_41, w_62_44, w_62_48, w_62_50, w_62_51, w_62_54, w_62_57, w_62_60, w_62_61, w_62_64, w_62_67, w_62_68, w_62_69, w_62_72, w_62_73, w_62_76, w_62_79, w_62_80, w_62_81, w_62_82, w_62_85, w_62_88, w_62_89, w_62_92, w_62_93, w_62_94, w_62_97, w_62_100, w_62_101, w_62_102, w_62_105, w_62_106, w_62_109, w_62_110, w_62_113, w_62_116, w_62_117, w_62_118, w_62_119, w_62_122, w_62_125, w_62_128, w_62_132, w_62_134, w_62_135, w_62_138, w_62_141, w_62_144, w_62_145, w_62_148, w_62_151, w_62_152, w_62_153, w_62_154, w_62_157, w_62_158, w_62_159, w_62_162, w_62_163, w_62_164, w_62_167, w_62_170, w_62_173, hn, ic_le, e, if_false, ic_clamp, inB_ic, e2, true_and, ne_thr0, app0, ic_add1, g2, c, if_true, not_true_eq_false] at q ⊢
      exact q
    · simp (disch := first | assumption | omega) only [en_62, w_62_0, w_62_1, w_62_2, w_62_5, w_62_6, w_62_7, w_62_10, w_62_11, w_62_13, w_62_14, w_62_17, w_62_20, w_62_23, w_62_24, w_62_27, w_62_30, w_62_31, w_62_32, w_62_33, w_62_37, w_62_38, w_62_41, w_62_44, w_62_48, w_62_50, w_62_51, w_62_54, w_62_57, w_62_60, w_62_61, w_62_64, w_62_67, w_62_68, w_62_69, w_62_72, w_62_73, w_62_76, w_62_79, w_62_80, w_62_81, w_62_82, w_62_85, w_62_88, w_62_89, w_62_92, w_62_93, w_62_94, w_62_97, w_62_100, w_62_101, w_62_102, w_62_105, w_62_106, w_62_109, w_62_110, w_62_113, w_62_116, w_62_117, w_62_118, w_62_119, w_62_122, w_62_125, w_62_128, w_62_132, w_62_134, w_62_135, w_62_138, w_62_141, w_62_144, w_62_145, w_62_148, w_62_151, w_62_152, w_62_153, w_62_154, w_62_157, w_62_158, w_62_159, w_62_162, w_62_163, w_62_164, w_62_167, w_62_170, w_62_173, hn, ic_le, e, if_false, ic_clamp, inB_ic, e2, true_and, ne_thr0, app0, ic_add1, c, if_true, not_false_eq_true] at q ⊢
      exact q
theorem itr_inv {α : Type} {f : Nat → α → α} {I : α → Prop} {n : Nat} (h : ∀ k a, k < n → I a → I (f k a)) : ∀ d k a, k + d ≤ n → I a → I (itr f k d a) := by
  intro d
  induction d with
  | zero => intro k a _ q; exact q
  | succ d ih => intro k a hk q; unfold itr; exact ih _ _ (by omega) (h k a (by omega) q)
theorem sv05_ok {v : Int32} {np : Nat} (ho : VOK V) (hi : VI np V) : VOK (sv V 0 5 v) ∧ VI np (sv V 0 5 v) := ⟨VOK_of (sv_a (by decide)) (sv_a (by decide)) ho, VI_eq (sv_a (by decide)) (sv_a (by decide)) (sv_a (by decide)) (sv_a (by decide)) (sv_a (by decide)) hi⟩
theorem s1s_ok (hx : RdOK X) {n : Nat} (h : VOK V ∧ VI (npN X) V ∧ nrN V = n) : VOK (itr (s1F X) 0 n V) ∧ VI (npN X) (itr (s1F X) 0 n V) ∧ nrN (itr (s1F X) 0 n V) = n := itr_inv (f := s1F X) (I := fun V => VOK V ∧ VI (npN X) V ∧ nrN V = n) (n := n) (fun k V hk q => by have g := VI_s1 (r := k) hx q.1 q.2.1 (by omega); exact ⟨g.1, g.2, by rw [nr_of s1_1]; exact q.2.2⟩) n 0 V (by omega) h
theorem s2s_ok (hx : RdOK X) {n : Nat} (h : VOK V ∧ VI (npN X) V ∧ nrN V = n) : VOK (itr (s2F X) 0 n V) ∧ VI (npN X) (itr (s2F X) 0 n V) ∧ nrN (itr (s2F X) 0 n V) = n := itr_inv (f := s2F X) (I := fun V => VOK V ∧ VI (npN X) V ∧ nrN V = n) (n := n) (fun k V hk q => by have g := VI_s2 (r := k) hx q.1 q.2.1 (by omega); exact ⟨g.1, g.2, by rw [nr_of s2_1]; exact q.2.2⟩) n 0 V (by omega) h
theorem s3s_ok (hx : RdOK X) {n : Nat} (h : VOK V ∧ VI (npN X) V ∧ nrN V = n) : VOK (itr (s3F X) 0 n V) ∧ VI (npN X) (itr (s3F X) 0 n V) ∧ nrN (itr (s3F X) 0 n V) = n := itr_inv (f := s3F X) (I := fun V => VOK V ∧ VI (npN X) V ∧ nrN V = n) (n := n) (fun k V hk q => by have g := VI_s3 (r := k) hx q.1 q.2.1 (by omega); exact ⟨g.1, g.2, by rw [nr_of (s3_ne (by decide) (by decide) (by decide) (by decide) (by decide) (by decide) (by decide) (by decide) (by decide) (by decide))]; exact q.2.2⟩) n 0 V (by omega) h
theorem sv05_n {v : Int32} : nrN (sv V 0 5 v) = nrN V := nr_of (sv_a (by decide))
theorem tic_ok3 (hx : RdOK X) (ho : VOK V) (hi : VI (npN X) V) : VOK (ticF X V) ∧ VI (npN X) (ticF X V) ∧ nrN (ticF X V) = nrN V := s3s_ok hx (s2s_ok hx (s1s_ok hx ⟨(sv05_ok ho hi).1, (sv05_ok ho hi).2, sv05_n⟩))
theorem tic_ok (hx : RdOK X) (ho : VOK V) (hi : VI (npN X) V) : VOK (ticF X V) ∧ VI (npN X) (ticF X V) := ⟨(tic_ok3 hx ho hi).1, (tic_ok3 hx ho hi).2.1⟩
set_option maxRecDepth 8000 in
theorem c_tick (hw : isWd w) (hx : RdOK X) (ho : VOK V) (hi : VI (npN X) V) : Call 62 [.ref (w + 0)] (hW u L xs X Z w V) K ↔ K [] (hW u L xs X Z w (ticF X V)) := by
  have b0 := sv05_ok (v := V 0 5 + 1) ho hi
  have b1 := s1s_ok hx ⟨b0.1, b0.2, sv05_n⟩
  have b2 := s2s_ok hx b1
  simp (disch := first | assumption | omega) only [en_62, w_62_0, w_62_1, w_62_2, w_62_5, w_62_6, w_62_7, w_62_10, w_62_11, w_62_13, w_62_14, w_62_17, w_62_20, w_62_23, w_62_24, w_62_27, w_62_30, w_62_31, w_62_32, w_62_33, w_62_36, w_62_37, w_62_38, w_62_41, w_62_44, w_62_48, w_62_50, w_62_51, w_62_54, w_62_57, w_62_60, w_62_61, w_62_64, w_62_67, w_62_68, w_62_69, w_62_72, w_62_73, w_62_76, w_62_79, w_62_80, w_62_81, w_62_82, w_62_85, w_62_88, w_62_89, w_62_92, w_62_93, w_62_94, w_62_97, w_62_100, w_62_101, w_62_102, w_62_105, w_62_106, w_62_109, w_62_110, w_62_113, w_62_116, w_62_117, w_62_118, w_62_119, w_62_122, w_62_125, w_62_128, w_62_132, w_62_134, w_62_135, w_62_138, w_62_141, w_62_144, w_62_145, w_62_148, w_62_151, w_62_152, w_62_153, w_62_154, w_62_157, w_62_158, w_62_159, w_62_162, w_62_163, w_62_164, w_62_167, w_62_170, w_62_173, sv_d]
  rw [ic_z, l_tick1 hw hx (nrN V) 0 _ b0.1 b0.2 (by rw [sv05_n]; omega), ic_z, l_tick2 hw hx (nrN V) 0 _ b1.1 b1.2.1 (by rw [b1.2.2]; omega), ic_z, l_tick3 hw hx (nrN V) 0 _ b2.1 b2.2.1 (by rw [b2.2.2]; omega)]
  rfl
theorem l_goOn (hw : isWd w) (hx : RdOK X) {la : Nat} (hla : la ≤ 1000) : ∀ d k V, VOK V → VI (npN X) V → (k + d = la + 1 ∨ (d = 0 ∧ la < k ∧ k ≤ 1001)) → (WP 60 0 7 [.ref (w + 0), .int (ic la), .int (ic k)] [] (hW u L xs X Z w V) K ↔ K [] (hW u L xs X Z w (itr (fun _ => ticF X) k d V))) := by
  intro d
  induction d with
  | zero =>
    intro k V ho hi hk
    have e : (la < k) = True := eq_true (by omega)
    rw [w_60_7]
    simp (disch := first | assumption | omega) only [en_60, w_60_0, w_60_1, w_60_4, w_60_5, w_60_6, w_60_8, w_60_9, w_60_13, w_60_16, w_60_19, w_60_22, ic_lt, e, if_true, itr]
  | succ d ih =>
    intro k V ho hi hk
    have e : (la < k) = False := eq_false (by omega)
    have g := tic_ok hx ho hi
    rw [w_60_7]
    simp (disch := first | assumption | omega) only [en_60, w_60_0, w_60_1, w_60_4, w_60_5, w_60_6, w_60_8, w_60_9, w_60_12, w_60_13, w_60_16, w_60_19, w_60_22, ic_lt, e, if_false, c_tick hw hx ho hi, ne_thr0, app0, true_and, ic_add1, itr]
    exact ih (k + 1) _ g.1 g.2 (by omega)
def tcs (X : Nat → Nat → Int32) : Nat → (Nat → Nat → Int32) → (Nat → Nat → Int32)
  | 0, V => V
  | d + 1, V => tcs X d (ticF X V)
theorem itr_tcs : ∀ d k V, itr (fun _ => ticF X) k d V = tcs X d V := by
  intro d
  induction d with
  | zero => intro k V; rfl
  | succ d ih => intro k V; unfold itr tcs; exact ih _ _
theorem tcs_ok (hx : RdOK X) : ∀ d V, VOK V → VI (npN X) V → VOK (tcs X d V) ∧ VI (npN X) (tcs X d V) := by
  intro d
  induction d with
  | zero => intro V a b; exact ⟨a, b⟩
  | succ d ih => intro V a b; exact ih _ (tic_ok hx a b).1 (tic_ok hx a b).2
theorem c_goOn (hw : isWd w) (hx : RdOK X) (ho : VOK V) (hi : VI (npN X) V) {la nw : Nat} (hla : la ≤ 1000) (hn : V 0 5 = ic nw) (hnw : nw ≤ 1000) : Call 60 [.ref (w + 0), .int (ic la)] (hW u L xs X Z w V) K ↔ K [] (hW u L xs X Z w (tcs X (la - nw) V)) := by
  simp (disch := first | assumption | omega) only [en_60, w_60_0, w_60_1, w_60_4, w_60_5, w_60_6, w_60_8, w_60_9, w_60_12, w_60_13, w_60_16, w_60_19, w_60_22, hn, ic_add1]
  rw [l_goOn hw hx hla (la - nw) (nw + 1) V ho hi (by omega), itr_tcs]
def muoF (X : Nat → Nat → Int32) (r : Nat) (so : Int32) : Nat → (Nat → Nat → Int32) → Int32 × (Nat → Nat → Int32)
  | 0, V => (-1, V)
  | d + 1, V => if (ticF X V) 6 r = 3 then ((ticF X V) 0 5 - so, ticF X V) else muoF X r so d (ticF X V)
theorem l_muo (hw : isWd w) (hx : RdOK X) {la r : Nat} {so : Int32} {l2 : Value} (hr : r < 12) (hla : la ≤ 1000) : ∀ d k V, VOK V → VI (npN X) V → (k + d = la + 1 ∨ (d = 0 ∧ la < k ∧ k ≤ 1001)) → (WP 61 0 31 [.ref (w + 0), .int (ic r), l2, .int so, .int (ic la), .int (ic k)] [] (hW u L xs X Z w V) K ↔ K [.int (muoF X r so d V).1] (hW u L xs X Z w (muoF X r so d V).2)) := by
  have e1 : (r < 12) = True := eq_true hr
  intro d
  induction d with
  | zero =>
    intro k V ho hi hk
    have e : (la < k) = True := eq_true (by omega)
    rw [w_61_31]
    simp (disch := first | assumption | omega) only [en_61, w_61_0, w_61_1, w_61_4, w_61_7, w_61_8, w_61_9, w_61_10, w_61_13, w_61_14, w_61_15, w_61_16, w_61_17, w_61_18, w_61_21, w_61_23, w_61_24, w_61_27, w_61_28, w_61_29, w_61_33, w_61_35, w_61_39, w_61_42, w_61_43, w_61_46, w_61_49, w_61_50, w_61_51, w_61_52, w_61_55, w_61_56, w_61_59, w_61_60, w_61_61, w_61_62, w_61_65, w_61_68, w_61_69, ic_lt, e, if_true, muoF]
  | succ d ih =>
    intro k V ho hi hk
    have e : (la < k) = False := eq_false (by omega)
    have g := tic_ok hx ho hi
    rw [w_61_31]
    unfold muoF
    by_cases c : (ticF X V) 6 r = 3
    · simp (disch := first | assumption | omega) only [en_61, w_61_0, w_61_1, w_61_4, w_61_7, w_61_8, w_61_9, w_61_10, w_61_13, w_61_14, w_61_15, w_61_16, w_61_17, w_61_18, w_61_21, w_61_23, w_61_24, w_61_27, w_61_28, w_61_29, w_61_33, w_61_35, w_61_38, w_61_39, w_61_42, w_61_43, w_61_46, w_61_49, w_61_50, w_61_51, w_61_52, w_61_55, w_61_56, w_61_59, w_61_60, w_61_61, w_61_62, w_61_65, w_61_68, w_61_69, ic_lt, e, if_false, c_tick hw hx ho hi, ne_thr0, app0, true_and, ic_add1, ic_clamp, inB_ic, e1, c, not_true_eq_false, if_true]
    · simp (disch := first | assumption | omega) only [en_61, w_61_0, w_61_1, w_61_4, w_61_7, w_61_8, w_61_9, w_61_10, w_61_13, w_61_14, w_61_15, w_61_16, w_61_17, w_61_18, w_61_21, w_61_23, w_61_24, w_61_27, w_61_28, w_61_29, w_61_33, w_61_35, w_61_38, w_61_39, w_61_42, w_61_43, w_61_46, w_61_49, w_61_50, w_61_51, w_61_52, w_61_55, w_61_56, w_61_59, w_61_60, w_61_61, w_61_62, w_61_65, w_61_68, w_61_69, ic_lt, e, if_false, c_tick hw hx ho hi, ne_thr0, app0, true_and, ic_add1, ic_clamp, inB_ic, e1, c, not_false_eq_true, if_true]
      exact ih (k + 1) _ g.1 g.2 (by omega)
theorem ic_add {a b : Nat} : ic a + ic b = ic (a + b) := by
  unfold ic
  rw [Int32.ofNat_add]
theorem c_muo (hw : isWd w) (hx : RdOK X) (ho : VOK V) (hi : VI (npN X) V) {r nw m li : Nat} (hr : r < 12) (hn : V 0 5 = ic nw) (hnw : nw ≤ 1000) (hm : V 5 r = ic m) (hm4 : m ≤ 400) (hl : li ≤ 600) (h1 : 1 ≤ m + li) : Call 61 [.ref (w + 0), .int (ic r), .int (ic li)] (hW u L xs X Z w V) K ↔ K [.int (muoF X r (ic m) (min 600 (m + li - 1) - nw) V).1] (hW u L xs X Z w (muoF X r (ic m) (min 600 (m + li - 1) - nw) V).2) := by
  have e1 : (r < 12) = True := eq_true hr
  have e2 : (if ic (m + li - 1) < ic 600 then ic (m + li - 1) else ic 600) = ic (min 600 (m + li - 1)) := by
    by_cases q : m + li - 1 < 600
    · rw [if_pos (by rw [ic_lt (by omega) (by omega)]; exact q)]
      congr 1; omega
    · rw [if_neg (by rw [ic_lt (by omega) (by omega)]; exact q)]
      congr 1; omega
  have e3 : ic m + ic li - 1 = ic (m + li - 1) := by rw [ic_add, ic_pred h1]
  simp (disch := first | assumption | omega) only [en_61, w_61_0, w_61_1, w_61_4, w_61_7, w_61_8, w_61_9, w_61_10, w_61_13, w_61_14, w_61_15, w_61_16, w_61_17, w_61_18, w_61_21, w_61_23, w_61_24, w_61_27, w_61_28, w_61_29, w_61_33, w_61_35, w_61_38, w_61_39, w_61_42, w_61_43, w_61_46, w_61_49, w_61_50, w_61_51, w_61_52, w_61_55, w_61_56, w_61_59, w_61_60, w_61_61, w_61_62, w_61_65, w_61_68, w_61_69, ic_clamp, inB_ic, e1, true_and, hm, hn, ic_add1, e3, show (600 : Int32) = ic 600 from rfl, e2]
  exact l_muo hw hx hr (by omega) _ (nw + 1) V ho hi (by omega)
end
