/-! COPIES OF WORLDS -/
/-- what the world at w holds -/
def wz (X : Nat → Nat → Int32) (w : Nat) : Nat → Nat → Int32 := fun o => if o < 24 then X (w + o) else fun _ => 0
theorem wz_at {X : Nat → Nat → Int32} {w o : Nat} (h : o < 24) : wz X w o = X (w + o) := if_pos h
theorem wz_hi {X : Nat → Nat → Int32} {w o : Nat} (h : 24 ≤ o) : wz X w o = fun _ => 0 := if_neg (by omega)
theorem wz_self {X : Nat → Nat → Int32} {w : Nat} : pw X w (wz X w) = X := by
  funext a
  unfold pw
  by_cases c : w ≤ a ∧ a < w + 24
  · rw [if_pos c, wz_at (by omega)]
    congr 1
    omega
  · rw [if_neg c]
def fsz (a : Nat) : Nat := if 2 ≤ a ∧ a ≤ 13 then 12 else if 15 ≤ a ∧ a ≤ 22 then 80 else 0
/-- the two worlds hold the same, stacks apart -/
def EqR (W V : Nat → Nat → Int32) : Prop := W 0 5 = V 0 5 ∧ W 1 0 = V 1 0 ∧ W 14 0 = V 14 0 ∧ ∀ a i, i < fsz a → W a i = V a i
section
variable {u : Nat × Nat} {L : Nat} {xs : Nat → Int32} {X : Nat → Nat → Int32} {Z : Nat → Nat → Int64} {K : List Value → AH → Prop} {V W : Nat → Nat → Int32}
theorem msz_fsz {a : Nat} (h : 0 < msz a) : msz a = fsz a := by
  have q : ∀ a : Fin 23, 0 < msz a.1 → msz a.1 = fsz a.1 := by decide +kernel
  exact q ⟨a, msz_lt h⟩ h
theorem EqR_f {a i : Nat} (h : EqR W V) (h1 : 2 ≤ a) (h2 : a ≤ 13) (hi : i < 12) : W a i = V a i := h.2.2.2 a i (by unfold fsz; rw [if_pos ⟨h1, h2⟩]; exact hi)
theorem EqR_g {a i : Nat} (h : EqR W V) (h1 : 15 ≤ a) (h2 : a ≤ 22) (hi : i < 80) : W a i = V a i := h.2.2.2 a i (by unfold fsz; rw [if_neg (by omega), if_pos ⟨h1, h2⟩]; exact hi)
theorem EqR_refl : EqR V V := ⟨rfl, rfl, rfl, fun _ _ _ => rfl⟩
theorem EqR_MR (h : EqR W V) (g : MR X V) : MR X W := by
  obtain ⟨h1, h2, h3, h4⟩ := h
  obtain ⟨g1, g2, g3, g4⟩ := g
  exact ⟨by rw [h1]; exact g1, by rw [h2]; exact g2, by rw [h3]; exact g3, fun a i hi => by rw [h4 a i (by rw [← msz_fsz (by omega)]; exact hi)]; exact g4 a i hi⟩
theorem EqR_nr (h : EqR W V) : nrN W = nrN V := by unfold nrN; rw [h.2.1]
theorem EqR_nl (h : EqR W V) : nlF W = nlF V := by unfold nlF; rw [h.2.2.1]
theorem EqR_VOK (h : EqR W V) (g : VOK V) : VOK W := by
  unfold VOK
  rw [EqR_nr h, EqR_nl h, h.2.1, h.2.2.1]
  exact g
theorem EqR_VI {np : Nat} (h : EqR W V) (g : VI np V) : VI np W := by
  obtain ⟨g1, g2, g3⟩ := g
  unfold VI
  rw [EqR_nr h]
  refine ⟨g1, fun k hk => VI1_of (EqR_f h (by decide) (by decide) hk) (EqR_f h (by decide) (by decide) hk) (EqR_f h (by decide) (by decide) hk) (EqR_f h (by decide) (by decide) hk) (g2 k hk), fun k hk hk2 => ?_⟩
  rw [EqR_f h (by decide) (by decide) hk]
  exact g3 k hk hk2
theorem EqR_LI (h : EqR W V) (ho : VOK V) (g : LI V) : LI W := by
  intro k hk
  rw [EqR_nl h] at hk
  have h80 := ho.2.2.2
  rw [EqR_g h (by decide) (by decide) (by omega), EqR_g h (by decide) (by decide) (by omega)]
  exact g k hk
theorem EqR_ins (h : EqR W V) (ho : VOK V) {r : Nat} {per : Int32} : insF W r per = insF V r per := by
  have h80 := ho.2.2.2
  unfold insF
  rw [EqR_nl h]
  refine itr_congr (fun j b _ hj => ?_)
  unfold insS
  rw [insB_o (k := 0) (EqR_g h (by decide) (by decide) (by omega)) (EqR_g h (by decide) (by decide) (by omega)) (EqR_g h (by decide) (by decide) (by omega))]
theorem EqR_CI (h : EqR W V) (ho : VOK V) (g : CI V) : CI W := by
  intro r hr
  rw [EqR_ins h ho, EqR_ins h ho, EqR_f h (by decide) (by decide) hr, EqR_f h (by decide) (by decide) hr]
  exact g r hr
theorem EqR_WI {np : Nat} (h : EqR W V) (g : WI np V) : WI np W := ⟨EqR_VOK h g.1, EqR_VI h g.2.1, EqR_LI h g.1 g.2.2.1, EqR_CI h g.1 g.2.2.2⟩
theorem vu_n {α : Type} {f : Nat → α} {a b : Nat} {v : α} (h : b ≠ a) : va_up f a v b = f b := by simp [va_up, h]
theorem vu_s {α : Type} {f : Nat → α} {a : Nat} {v : α} : va_up f a v a = v := by simp [va_up]
/-- the ways of the runs are booleans -/
def VB (V : Nat → Nat → Int32) : Prop := ∀ i, i < 12 → V 2 i = 0 ∨ V 2 i = 1
theorem vu_uu {α : Type} {f : Nat → α} {a : Nat} {v x : α} : va_up (va_up f a x) a v = va_up f a v := by
  funext j
  unfold va_up
  by_cases c : j = a
  · rw [if_pos c, if_pos c]
  · rw [if_neg c, if_neg c, if_neg c]
/-- the first twelve are booleans -/
def BB (f : Nat → Int32) : Prop := ∀ i, i < 12 → f i = 0 ∨ f i = 1
theorem cpy_z {f g : Nat → Int32} {k : Nat} : va_cpy f g k k 0 = g := by
  funext i
  unfold va_cpy
  rw [if_neg (by omega)]
theorem cpy_step {f g : Nat → Int32} {k d : Nat} : va_cpy f (upd g k (f k)) (k + 1) (k + 1) d = va_cpy f g k k (d + 1) := by
  funext i
  unfold va_cpy upd
  by_cases c : i = k
  · subst c
    rw [if_neg (show ¬ (i + 1 ≤ i ∧ i < i + 1 + d) by omega), if_pos rfl, if_pos (show i ≤ i ∧ i < i + (d + 1) by omega), Nat.sub_self, Nat.add_zero]
  · by_cases c2 : k + 1 ≤ i ∧ i < k + 1 + d
    · rw [if_pos c2, if_pos (show k ≤ i ∧ i < k + (d + 1) by omega), show k + 1 + (i - (k + 1)) = k + (i - k) by omega]
    · rw [if_neg c2, if_neg c, if_neg (show ¬ (k ≤ i ∧ i < k + (d + 1)) by omega)]
theorem l_cpu : ∀ d k (X : Nat → Nat → Int32), BB (X 27) → k + d = 12 → (WP 11 0 10 [.ref 50, .ref 26, .int (ic k)] [] (hX u L xs X Z) K ↔ WP 11 0 34 [.ref 50, .ref 26, .int (ic 12)] [] (hX u L xs (va_up X 51 (va_cpy (X 27) (X 51) k k d)) Z) K) := by
  intro d
  induction d with
  | zero =>
    intro k X hb hk
    obtain rfl : k = 12 := by omega
    have e : ((12 : Int32) ≤ ic 12) = True := eq_true (by decide)
    have e2 : va_up X 51 (X 51) = X := by
      funext j
      unfold va_up
      by_cases c : j = 51
      · rw [if_pos c, c]
      · rw [if_neg c]
    rw [w_11_10]
    simp only [en_11, w_11_0, w_11_1, w_11_2, w_11_5, w_11_8, w_11_9, w_11_11, w_11_13, w_11_17, w_11_20, w_11_21, w_11_22, w_11_25, w_11_26, w_11_27, w_11_28, w_11_31, w_11_35, w_11_38, w_11_39, w_11_40, w_11_43, w_11_44, w_11_46, w_11_49, w_11_50, w_11_53, w_11_54, w_11_55, w_11_58, w_11_59, w_11_61, w_11_64, w_11_65, w_11_68, w_11_69, w_11_70, w_11_73, w_11_74, w_11_76, w_11_79, w_11_80, w_11_83, w_11_84, w_11_85, w_11_88, w_11_89, w_11_91, w_11_94, w_11_95, w_11_98, w_11_99, w_11_100, w_11_103, w_11_104, w_11_106, w_11_109, w_11_110, w_11_113, w_11_114, w_11_115, w_11_118, w_11_119, w_11_121, w_11_124, w_11_125, w_11_128, w_11_129, w_11_130, w_11_133, w_11_134, w_11_136, w_11_139, w_11_140, w_11_143, w_11_144, w_11_145, w_11_148, w_11_149, w_11_151, w_11_154, w_11_155, w_11_158, w_11_159, w_11_160, w_11_163, w_11_164, w_11_166, w_11_169, w_11_170, w_11_173, w_11_174, w_11_175, w_11_178, w_11_179, w_11_181, w_11_184, w_11_185, w_11_188, w_11_189, w_11_190, w_11_193, w_11_194, w_11_196, w_11_199, e, if_true, cpy_z, e2]
  | succ d ih =>
    intro k X hb hk
    have e : ((12 : Int32) ≤ ic k) = False := by
      rw [show (12 : Int32) = ic 12 from rfl, ic_le (by omega) (by omega)]
      exact eq_false (by omega)
    have e2 : (k < 12) = True := eq_true (by omega)
    have v : vp_nar .boolean (X 27 k) = X 27 k := by rcases hb k (by omega) with h | h <;> rw [h] <;> rfl
    have q := ih (k + 1) (va_up X 51 (upd (X 51) k (X 27 k))) (by rw [vu_n (by decide)]; exact hb) (by omega)
    rw [vu_n (show 27 ≠ 51 by decide), vu_s, vu_uu, cpy_step] at q
    rw [w_11_10]
    simp (disch := first | assumption | omega) only [en_11, w_11_0, w_11_1, w_11_2, w_11_5, w_11_8, w_11_9, w_11_11, w_11_13, w_11_16, w_11_17, w_11_20, w_11_21, w_11_22, w_11_25, w_11_26, w_11_27, w_11_28, w_11_31, w_11_35, w_11_38, w_11_39, w_11_40, w_11_43, w_11_44, w_11_46, w_11_49, w_11_50, w_11_53, w_11_54, w_11_55, w_11_58, w_11_59, w_11_61, w_11_64, w_11_65, w_11_68, w_11_69, w_11_70, w_11_73, w_11_74, w_11_76, w_11_79, w_11_80, w_11_83, w_11_84, w_11_85, w_11_88, w_11_89, w_11_91, w_11_94, w_11_95, w_11_98, w_11_99, w_11_100, w_11_103, w_11_104, w_11_106, w_11_109, w_11_110, w_11_113, w_11_114, w_11_115, w_11_118, w_11_119, w_11_121, w_11_124, w_11_125, w_11_128, w_11_129, w_11_130, w_11_133, w_11_134, w_11_136, w_11_139, w_11_140, w_11_143, w_11_144, w_11_145, w_11_148, w_11_149, w_11_151, w_11_154, w_11_155, w_11_158, w_11_159, w_11_160, w_11_163, w_11_164, w_11_166, w_11_169, w_11_170, w_11_173, w_11_174, w_11_175, w_11_178, w_11_179, w_11_181, w_11_184, w_11_185, w_11_188, w_11_189, w_11_190, w_11_193, w_11_194, w_11_196, w_11_199, e, if_false, ic_clamp, inB_ic, e2, true_and, v, ic_add1, q]
theorem c_cpu (hb : BB (X 27)) : WP 11 0 10 [.ref 50, .ref 26, .int 0] [] (hX u L xs X Z) K ↔ WP 11 0 34 [.ref 50, .ref 26, .int (ic 12)] [] (hX u L xs (va_up X 51 (va_cpy (X 27) (X 51) 0 0 12)) Z) K := l_cpu 12 0 X hb rfl
theorem l_cpub : ∀ d k (X : Nat → Nat → Int32), BB (X 51) → k + d = 12 → (WP 11 0 10 [.ref 74, .ref 50, .int (ic k)] [] (hX u L xs X Z) K ↔ WP 11 0 34 [.ref 74, .ref 50, .int (ic 12)] [] (hX u L xs (va_up X 75 (va_cpy (X 51) (X 75) k k d)) Z) K) := by
  intro d
  induction d with
  | zero =>
    intro k X hb hk
    obtain rfl : k = 12 := by omega
    have e : ((12 : Int32) ≤ ic 12) = True := eq_true (by decide)
    have e2 : va_up X 75 (X 75) = X := by
      funext j
      unfold va_up
      by_cases c : j = 75
      · rw [if_pos c, c]
      · rw [if_neg c]
    rw [w_11_10b]
    simp only [en_11b, w_11_0b, w_11_1b, w_11_2b, w_11_5b, w_11_8b, w_11_9b, w_11_11b, w_11_13b, w_11_17b, w_11_20b, w_11_21b, w_11_22b, w_11_25b, w_11_26b, w_11_27b, w_11_28b, w_11_31b, w_11_35b, w_11_38b, w_11_39b, w_11_40b, w_11_43b, w_11_44b, w_11_46b, w_11_49b, w_11_50b, w_11_53b, w_11_54b, w_11_55b, w_11_58b, w_11_59b, w_11_61b, w_11_64b, w_11_65b, w_11_68b, w_11_69b, w_11_70b, w_11_73b, w_11_74b, w_11_76b, w_11_79b, w_11_80b, w_11_83b, w_11_84b, w_11_85b, w_11_88b, w_11_89b, w_11_91b, w_11_94b, w_11_95b, w_11_98b, w_11_99b, w_11_100b, w_11_103b, w_11_104b, w_11_106b, w_11_109b, w_11_110b, w_11_113b, w_11_114b, w_11_115b, w_11_118b, w_11_119b, w_11_121b, w_11_124b, w_11_125b, w_11_128b, w_11_129b, w_11_130b, w_11_133b, w_11_134b, w_11_136b, w_11_139b, w_11_140b, w_11_143b, w_11_144b, w_11_145b, w_11_148b, w_11_149b, w_11_151b, w_11_154b, w_11_155b, w_11_158b, w_11_159b, w_11_160b, w_11_163b, w_11_164b, w_11_166b, w_11_169b, w_11_170b, w_11_173b, w_11_174b, w_11_175b, w_11_178b, w_11_179b, w_11_181b, w_11_184b, w_11_185b, w_11_188b, w_11_189b, w_11_190b, w_11_193b, w_11_194b, w_11_196b, w_11_199b, e, if_true, cpy_z, e2]
  | succ d ih =>
    intro k X hb hk
    have e : ((12 : Int32) ≤ ic k) = False := by
      rw [show (12 : Int32) = ic 12 from rfl, ic_le (by omega) (by omega)]
      exact eq_false (by omega)
    have e2 : (k < 12) = True := eq_true (by omega)
    have v : vp_nar .boolean (X 51 k) = X 51 k := by rcases hb k (by omega) with h | h <;> rw [h] <;> rfl
    have q := ih (k + 1) (va_up X 75 (upd (X 75) k (X 51 k))) (by rw [vu_n (by decide)]; exact hb) (by omega)
    rw [vu_n (show 51 ≠ 75 by decide), vu_s, vu_uu, cpy_step] at q
    rw [w_11_10b]
    simp (disch := first | assumption | omega) only [en_11b, w_11_0b, w_11_1b, w_11_2b, w_11_5b, w_11_8b, w_11_9b, w_11_11b, w_11_13b, w_11_16b, w_11_17b, w_11_20b, w_11_21b, w_11_22b, w_11_25b, w_11_26b, w_11_27b, w_11_28b, w_11_31b, w_11_35b, w_11_38b, w_11_39b, w_11_40b, w_11_43b, w_11_44b, w_11_46b, w_11_49b, w_11_50b, w_11_53b, w_11_54b, w_11_55b, w_11_58b, w_11_59b, w_11_61b, w_11_64b, w_11_65b, w_11_68b, w_11_69b, w_11_70b, w_11_73b, w_11_74b, w_11_76b, w_11_79b, w_11_80b, w_11_83b, w_11_84b, w_11_85b, w_11_88b, w_11_89b, w_11_91b, w_11_94b, w_11_95b, w_11_98b, w_11_99b, w_11_100b, w_11_103b, w_11_104b, w_11_106b, w_11_109b, w_11_110b, w_11_113b, w_11_114b, w_11_115b, w_11_118b, w_11_119b, w_11_121b, w_11_124b, w_11_125b, w_11_128b, w_11_129b, w_11_130b, w_11_133b, w_11_134b, w_11_136b, w_11_139b, w_11_140b, w_11_143b, w_11_144b, w_11_145b, w_11_148b, w_11_149b, w_11_151b, w_11_154b, w_11_155b, w_11_158b, w_11_159b, w_11_160b, w_11_163b, w_11_164b, w_11_166b, w_11_169b, w_11_170b, w_11_173b, w_11_174b, w_11_175b, w_11_178b, w_11_179b, w_11_181b, w_11_184b, w_11_185b, w_11_188b, w_11_189b, w_11_190b, w_11_193b, w_11_194b, w_11_196b, w_11_199b, e, if_false, ic_clamp, inB_ic, e2, true_and, v, ic_add1, q]
theorem c_cpub (hb : BB (X 51)) : WP 11 0 10 [.ref 74, .ref 50, .int 0] [] (hX u L xs X Z) K ↔ WP 11 0 34 [.ref 74, .ref 50, .int (ic 12)] [] (hX u L xs (va_up X 75 (va_cpy (X 51) (X 75) 0 0 12)) Z) K := l_cpub 12 0 X hb rfl
theorem cases23 {a : Nat} {Q : Nat → Prop} (h : 0 < fsz a) (h2 : Q 2) (h3 : Q 3) (h4 : Q 4) (h5 : Q 5) (h6 : Q 6) (h7 : Q 7) (h8 : Q 8) (h9 : Q 9) (h10 : Q 10) (h11 : Q 11) (h12 : Q 12) (h13 : Q 13) (h15 : Q 15) (h16 : Q 16) (h17 : Q 17) (h18 : Q 18) (h19 : Q 19) (h20 : Q 20) (h21 : Q 21) (h22 : Q 22) : Q a := by
  have : (2 ≤ a ∧ a ≤ 13) ∨ (15 ≤ a ∧ a ≤ 22) := by
    unfold fsz at h
    split at h
    · exact Or.inl (by assumption)
    · split at h
      · exact Or.inr (by assumption)
      · omega
  have : a = 2 ∨ a = 3 ∨ a = 4 ∨ a = 5 ∨ a = 6 ∨ a = 7 ∨ a = 8 ∨ a = 9 ∨ a = 10 ∨ a = 11 ∨ a = 12 ∨ a = 13 ∨ a = 15 ∨ a = 16 ∨ a = 17 ∨ a = 18 ∨ a = 19 ∨ a = 20 ∨ a = 21 ∨ a = 22 := by omega
  rcases this with rfl | rfl | rfl | rfl | rfl | rfl | rfl | rfl | rfl | rfl | rfl | rfl | rfl | rfl | rfl | rfl | rfl | rfl | rfl | rfl <;> assumption
theorem cpy_at {f g : Nat → Int32} {n i : Nat} (h : i < n) : va_cpy f g 0 0 n i = f i := by
  unfold va_cpy
  rw [if_pos (by omega)]
  simp
set_option maxRecDepth 16000 in
set_option maxHeartbeats 2000000 in
theorem c_copy (hb : VB (wz X 25)) (hK : ∀ X', (∀ a, a < 49 ∨ 73 ≤ a → X' a = X a) → EqR (wz X' 49) (wz X 25) → K [] (hX u L xs X' Z)) : Call 59 [.ref 49, .ref 25] (hX u L xs X Z) K := by
  have hb' : BB (X 27) := fun i hi => by have := hb i hi; rwa [wz_at (by decide)] at this
  simp (disch := first | decide | (simp (disch := decide) only [vu_n]; exact hb')) only [en_59, w_59_0, w_59_1, w_59_2, w_59_5, w_59_8, w_59_9, w_59_12, w_59_13, w_59_16, w_59_19, w_59_20, w_59_23, w_59_24, w_59_27, w_59_30, en_11, w_11_0, w_11_1, w_11_2, w_11_5, w_11_8, w_11_9, w_11_11, w_11_13, w_11_16, w_11_17, w_11_20, w_11_21, w_11_22, w_11_25, w_11_26, w_11_27, w_11_28, w_11_31, w_11_34, w_11_35, w_11_38, w_11_39, w_11_40, w_11_43, w_11_44, w_11_46, w_11_49, w_11_50, w_11_53, w_11_54, w_11_55, w_11_58, w_11_59, w_11_61, w_11_64, w_11_65, w_11_68, w_11_69, w_11_70, w_11_73, w_11_74, w_11_76, w_11_79, w_11_80, w_11_83, w_11_84, w_11_85, w_11_88, w_11_89, w_11_91, w_11_94, w_11_95, w_11_98, w_11_99, w_11_100, w_11_103, w_11_104, w_11_106, w_11_109, w_11_110, w_11_113, w_11_114, w_11_115, w_11_118, w_11_119, w_11_121, w_11_124, w_11_125, w_11_128, w_11_129, w_11_130, w_11_133, w_11_134, w_11_136, w_11_139, w_11_140, w_11_143, w_11_144, w_11_145, w_11_148, w_11_149, w_11_151, w_11_154, w_11_155, w_11_158, w_11_159, w_11_160, w_11_163, w_11_164, w_11_166, w_11_169, w_11_170, w_11_173, w_11_174, w_11_175, w_11_178, w_11_179, w_11_181, w_11_184, w_11_185, w_11_188, w_11_189, w_11_190, w_11_193, w_11_194, w_11_196, w_11_199, c_cpu, en_19, w_19_0, w_19_1, w_19_2, w_19_5, w_19_8, w_19_9, w_19_12, w_19_13, w_19_14, w_19_17, w_19_18, w_19_20, w_19_23, w_19_24, w_19_27, w_19_28, w_19_29, w_19_32, w_19_33, w_19_35, w_19_38, w_19_39, w_19_42, w_19_43, w_19_44, w_19_47, w_19_48, w_19_50, w_19_53, w_19_54, w_19_57, w_19_58, w_19_59, w_19_62, w_19_63, w_19_65, w_19_68, w_19_69, w_19_72, w_19_73, w_19_74, w_19_77, w_19_78, w_19_80, w_19_83, w_19_84, w_19_87, w_19_88, w_19_89, w_19_92, w_19_93, w_19_95, w_19_98, w_19_99, w_19_102, w_19_103, w_19_104, w_19_107, w_19_108, w_19_110, w_19_113, w_19_114, w_19_117, w_19_118, w_19_119, w_19_122, w_19_123, w_19_125, w_19_128, ne_thr0, app0, true_and, vu_n]
  apply hK
  · intro a ha
    repeat rw [vu_n (by omega)]
  · refine ⟨?_, ?_, ?_, ?_⟩
    · rw [wz_at (by decide), wz_at (by decide)]; simp (disch := decide) [vu_n, vu_s, upd]
    · rw [wz_at (by decide), wz_at (by decide)]; simp (disch := decide) [vu_n, vu_s, upd]
    · rw [wz_at (by decide), wz_at (by decide)]; simp (disch := decide) [vu_n, vu_s, upd]
    · intro a i hi
      revert hi
      by_cases z : 0 < fsz a
      · refine cases23 (Q := fun a => i < fsz a → wz _ 49 a i = wz X 25 a i) z ?_ ?_ ?_ ?_ ?_ ?_ ?_ ?_ ?_ ?_ ?_ ?_ ?_ ?_ ?_ ?_ ?_ ?_ ?_ ?_
        all_goals
          intro hi
          rw [wz_at (by decide), wz_at (by decide)]
          simp (disch := decide) only [Nat.reduceAdd, vu_n, vu_s]
          exact cpy_at hi
      · intro hi; omega
set_option maxRecDepth 16000 in
set_option maxHeartbeats 2000000 in
theorem c_copyb (hb : VB (wz X 49)) (hK : ∀ X', (∀ a, a < 73 ∨ 97 ≤ a → X' a = X a) → EqR (wz X' 73) (wz X 49) → K [] (hX u L xs X' Z)) : Call 59 [.ref 73, .ref 49] (hX u L xs X Z) K := by
  have hb' : BB (X 51) := fun i hi => by have := hb i hi; rwa [wz_at (by decide)] at this
  simp (disch := first | decide | (simp (disch := decide) only [vu_n]; exact hb')) only [en_59b, w_59_0b, w_59_1b, w_59_2b, w_59_5b, w_59_8b, w_59_9b, w_59_12b, w_59_13b, w_59_16b, w_59_19b, w_59_20b, w_59_23b, w_59_24b, w_59_27b, w_59_30b, en_11b, w_11_0b, w_11_1b, w_11_2b, w_11_5b, w_11_8b, w_11_9b, w_11_11b, w_11_13b, w_11_16b, w_11_17b, w_11_20b, w_11_21b, w_11_22b, w_11_25b, w_11_26b, w_11_27b, w_11_28b, w_11_31b, w_11_34b, w_11_35b, w_11_38b, w_11_39b, w_11_40b, w_11_43b, w_11_44b, w_11_46b, w_11_49b, w_11_50b, w_11_53b, w_11_54b, w_11_55b, w_11_58b, w_11_59b, w_11_61b, w_11_64b, w_11_65b, w_11_68b, w_11_69b, w_11_70b, w_11_73b, w_11_74b, w_11_76b, w_11_79b, w_11_80b, w_11_83b, w_11_84b, w_11_85b, w_11_88b, w_11_89b, w_11_91b, w_11_94b, w_11_95b, w_11_98b, w_11_99b, w_11_100b, w_11_103b, w_11_104b, w_11_106b, w_11_109b, w_11_110b, w_11_113b, w_11_114b, w_11_115b, w_11_118b, w_11_119b, w_11_121b, w_11_124b, w_11_125b, w_11_128b, w_11_129b, w_11_130b, w_11_133b, w_11_134b, w_11_136b, w_11_139b, w_11_140b, w_11_143b, w_11_144b, w_11_145b, w_11_148b, w_11_149b, w_11_151b, w_11_154b, w_11_155b, w_11_158b, w_11_159b, w_11_160b, w_11_163b, w_11_164b, w_11_166b, w_11_169b, w_11_170b, w_11_173b, w_11_174b, w_11_175b, w_11_178b, w_11_179b, w_11_181b, w_11_184b, w_11_185b, w_11_188b, w_11_189b, w_11_190b, w_11_193b, w_11_194b, w_11_196b, w_11_199b, c_cpub, en_19b, w_19_0b, w_19_1b, w_19_2b, w_19_5b, w_19_8b, w_19_9b, w_19_12b, w_19_13b, w_19_14b, w_19_17b, w_19_18b, w_19_20b, w_19_23b, w_19_24b, w_19_27b, w_19_28b, w_19_29b, w_19_32b, w_19_33b, w_19_35b, w_19_38b, w_19_39b, w_19_42b, w_19_43b, w_19_44b, w_19_47b, w_19_48b, w_19_50b, w_19_53b, w_19_54b, w_19_57b, w_19_58b, w_19_59b, w_19_62b, w_19_63b, w_19_65b, w_19_68b, w_19_69b, w_19_72b, w_19_73b, w_19_74b, w_19_77b, w_19_78b, w_19_80b, w_19_83b, w_19_84b, w_19_87b, w_19_88b, w_19_89b, w_19_92b, w_19_93b, w_19_95b, w_19_98b, w_19_99b, w_19_102b, w_19_103b, w_19_104b, w_19_107b, w_19_108b, w_19_110b, w_19_113b, w_19_114b, w_19_117b, w_19_118b, w_19_119b, w_19_122b, w_19_123b, w_19_125b, w_19_128b, ne_thr0, app0, true_and, vu_n]
  apply hK
  · intro a ha
    repeat rw [vu_n (by omega)]
  · refine ⟨?_, ?_, ?_, ?_⟩
    · rw [wz_at (by decide), wz_at (by decide)]; simp (disch := decide) [vu_n, vu_s, upd]
    · rw [wz_at (by decide), wz_at (by decide)]; simp (disch := decide) [vu_n, vu_s, upd]
    · rw [wz_at (by decide), wz_at (by decide)]; simp (disch := decide) [vu_n, vu_s, upd]
    · intro a i hi
      revert hi
      by_cases z : 0 < fsz a
      · refine cases23 (Q := fun a => i < fsz a → wz _ 73 a i = wz X 49 a i) z ?_ ?_ ?_ ?_ ?_ ?_ ?_ ?_ ?_ ?_ ?_ ?_ ?_ ?_ ?_ ?_ ?_ ?_ ?_ ?_
        all_goals
          intro hi
          rw [wz_at (by decide), wz_at (by decide)]
          simp (disch := decide) only [Nat.reduceAdd, vu_n, vu_s]
          exact cpy_at hi
      · intro hi; omega
end
