/-! THE COUNTS OF WHO IS INSIDE -/
section
variable {u : Nat × Nat} {L : Nat} {xs : Nat → Int32} {X : Nat → Nat → Int32} {Z : Nat → Nat → Int64} {K : List Value → AH → Prop} {V V' : Nat → Nat → Int32}
theorem nex_com {pl up per now : Int32} : ∀ d k nx, (nx = -1 ∨ ∃ j, nx = ic j ∧ j < k ∧ comB V pl up per now j = true) → (itr (nxtS V pl up per now) k d nx = -1 ∨ ∃ j, itr (nxtS V pl up per now) k d nx = ic j ∧ j < k + d ∧ comB V pl up per now j = true) := by
  intro d
  induction d with
  | zero => intro k nx h; exact h
  | succ d ih =>
    intro k nx h
    unfold itr
    have := ih (k + 1) (nxtS V pl up per now k nx) (by
      unfold nxtS
      split
      · rename_i q
        exact Or.inr ⟨k, rfl, by omega, q.1⟩
      · rcases h with h | ⟨j, h, g, c⟩
        · exact Or.inl h
        · exact Or.inr ⟨j, h, by omega, c⟩)
    rcases this with h | ⟨j, h, g, c⟩
    · exact Or.inl h
    · exact Or.inr ⟨j, h, by omega, c⟩
theorem nexF_com {pl up per now : Int32} : nexF V pl up per now = -1 ∨ ∃ j, nexF V pl up per now = ic j ∧ j < nlF V ∧ comB V pl up per now j = true := by
  have := nex_com (V := V) (pl := pl) (up := up) (per := per) (now := now) (nlF V) 0 (-1) (Or.inl rfl)
  rwa [Nat.zero_add] at this
theorem sum_sh {g : Nat → Int32} {c : Int32} : ∀ d k a, itr (fun k a => a + g k) k d (a + c) = itr (fun k a => a + g k) k d a + c := by
  intro d
  induction d with
  | zero => intro k a; rfl
  | succ d ih =>
    intro k a
    unfold itr
    rw [← ih]
    congr 1
    rw [Int32.add_assoc, Int32.add_comm c, ← Int32.add_assoc]
theorem sum_eq {f g : Nat → Int32} : ∀ d k a, (∀ j, k ≤ j → j < k + d → f j = g j) → itr (fun k a => a + f k) k d a = itr (fun k a => a + g k) k d a := by
  intro d
  induction d with
  | zero => intro k a _; rfl
  | succ d ih =>
    intro k a h
    unfold itr
    rw [h k (by omega) (by omega), ih _ _ (fun j a b => h j (by omega) (by omega))]
theorem sum_pt {f g : Nat → Int32} {k0 : Nat} {c : Int32} (h : ∀ j, j ≠ k0 → f j = g j) (hc : f k0 = g k0 + c) : ∀ d k a, k ≤ k0 → k0 < k + d → itr (fun k a => a + f k) k d a = itr (fun k a => a + g k) k d a + c := by
  intro d
  induction d with
  | zero => intro k a h1 h2; omega
  | succ d ih =>
    intro k a h1 h2
    unfold itr
    by_cases e : k = k0
    · subst e
      rw [hc, ← Int32.add_assoc, sum_sh, sum_eq d (k + 1) _ (fun j p q => h j (by omega))]
    · rw [h k e, ih _ _ (by omega) (by omega)]
theorem insF_pt {r k : Nat} {per c : Int32} (hn : V' 14 = V 14) (hk : k < nlF V) (h : ∀ j, j ≠ k → insB V' r per j = insB V r per j) (hc : b2i (insB V' r per k) = b2i (insB V r per k) + c) : insF V' r per = insF V r per + c := by
  have e : nlF V' = nlF V := by unfold nlF; rw [hn]
  unfold insF
  rw [e]
  exact sum_pt (f := fun j => b2i (insB V' r per j)) (g := fun j => b2i (insB V r per j)) (fun j hj => by rw [h j hj]) hc (nlF V) 0 0 (by omega) (by omega)
theorem insB_o {r j k : Nat} {per : Int32} (h1 : V' 19 j = V 19 j) (h2 : V' 20 j = V 20 j) (h3 : V' 15 j = V 15 j) : insB V' r per j = insB V r per j := by
  unfold insB
  rw [h1, h2, h3]
theorem get_19 {r k j : Nat} : getF V r k 19 j = if j = k then 1 else V 19 j := by
  unfold getF
  rw [cntF_ne (by decide) (by decide)]
  simp only [sv_at]
  by_cases e : j = k <;> simp [e]
theorem get_20 {r k j : Nat} : getF V r k 20 j = if j = k then ic r else V 20 j := by
  unfold getF
  rw [cntF_ne (by decide) (by decide)]
  simp only [sv_at]
  by_cases e : j = k <;> simp [e]
theorem get_15 {r k : Nat} : getF V r k 15 = V 15 := getF_ne (by decide) (by decide) (by decide) (by decide) (by decide) (by decide)
theorem get_9 {r k j : Nat} : getF V r k 9 j = if j = r ∧ V 15 k = 0 then V 9 j + 1 else V 9 j := by
  unfold getF cntF
  simp (disch := omega) only [sv_a]
  by_cases c : V 15 k = 0
  · simp only [c, if_true, sv_at, and_true]
    by_cases e : j = r <;> simp [e]
  · simp (disch := omega) only [c, if_false, sv_a, and_false]
theorem get_10 {r k j : Nat} : getF V r k 10 j = if j = r ∧ ¬ V 15 k = 0 then V 10 j + 1 else V 10 j := by
  unfold getF cntF
  simp (disch := omega) only [sv_a]
  by_cases c : V 15 k = 0
  · simp (disch := omega) only [c, if_true, sv_a, not_true_eq_false, and_false, if_false]
  · simp only [c, if_false, sv_at, not_false_eq_true, and_true]
    by_cases e : j = r <;> simp [e]
theorem CI_get {r k : Nat} (hr : r < 12) (hk : k < nlF V) (h0 : V 19 k = 0) (h : CI V) : CI (getF V r k) := by
  have e14 : getF V r k 14 = V 14 := getF_ne (by decide) (by decide) (by decide) (by decide) (by decide) (by decide)
  have i0 : ∀ r' per, insB V r' per k = false := fun r' per => by unfold insB; rw [h0]; simp
  have i1 : ∀ r' per, r' < 12 → insB (getF V r k) r' per k = decide (r' = r ∧ b2i (decide (V 15 k = 0)) = per) := by
    intro r' per hr'
    unfold insB
    rw [get_19, get_20, get_15, if_pos rfl, if_pos rfl]
    have e : (ic r = ic r') = (r' = r) := by rw [ic_eq (by omega) (by omega)]; exact propext eq_comm
    simp only [e, true_and]
  have io : ∀ r' per j, j ≠ k → insB (getF V r k) r' per j = insB V r' per j := fun r' per j hj => insB_o (k := k) (by rw [get_19, if_neg hj]) (by rw [get_20, if_neg hj]) (by rw [get_15])
  intro r' hr'
  obtain ⟨q1, q2⟩ := h r' hr'
  have a1 := insF_pt (r := r') (per := 1) (c := b2i (decide (r' = r ∧ V 15 k = 0))) e14 hk (io r' 1) (by
    rw [i0, i1 r' 1 hr', b2i_f, Int32.zero_add]
    by_cases c : V 15 k = 0 <;> simp [c, b2i])
  have a2 := insF_pt (r := r') (per := 0) (c := b2i (decide (r' = r ∧ ¬ V 15 k = 0))) e14 hk (io r' 0) (by
    rw [i0, i1 r' 0 hr', b2i_f, Int32.zero_add]
    by_cases c : V 15 k = 0 <;> simp [c, b2i])
  rw [a1, a2, get_9, get_10, ← q1, ← q2]
  constructor
  · by_cases c : r' = r ∧ V 15 k = 0 <;> simp [c, b2i]
  · by_cases c : r' = r ∧ ¬ V 15 k = 0 <;> simp [c, b2i]
theorem out_at {r k : Nat} (c : V 19 k = 1 ∧ V 20 k = ic r ∧ V 17 k = V 7 r) : outF r k V = cntF (sv (sv V 19 k 2) 21 k (V 0 5)) r k (-1) := by unfold outF; rw [if_pos c]
theorem CI_out {r k : Nat} (hr : r < 12) (hk : k < nlF V) (h : CI V) : CI (outF r k V) := by
  by_cases c : V 19 k = 1 ∧ V 20 k = ic r ∧ V 17 k = V 7 r
  · have e14 : outF r k V 14 = V 14 := outF_14
    have e19 : ∀ j, outF r k V 19 j = if j = k then 2 else V 19 j := by
      intro j
      rw [out_at c, cntF_ne (by decide) (by decide)]
      simp only [sv_at]
      by_cases e : j = k <;> simp [e]
    have e20 : outF r k V 20 = V 20 := outF_ne (by decide) (by decide) (by decide) (by decide)
    have e15 : outF r k V 15 = V 15 := outF_ne (by decide) (by decide) (by decide) (by decide)
    have i0 : ∀ r' per, r' < 12 → insB V r' per k = decide (r' = r ∧ b2i (decide (V 15 k = 0)) = per) := by
      intro r' per hr'
      unfold insB
      rw [c.1, c.2.1]
      have e : (ic r = ic r') = (r' = r) := by rw [ic_eq (by omega) (by omega)]; exact propext eq_comm
      simp only [e, true_and]
    have i1 : ∀ r' per, insB (outF r k V) r' per k = false := by
      intro r' per
      unfold insB
      rw [e19, if_pos rfl]
      simp
    have io : ∀ r' per j, j ≠ k → insB (outF r k V) r' per j = insB V r' per j := fun r' per j hj => insB_o (k := k) (by rw [e19, if_neg hj]) (by rw [e20]) (by rw [e15])
    have e9 : ∀ j, outF r k V 9 j = if j = r ∧ V 15 k = 0 then V 9 j + -1 else V 9 j := by
      intro j
      rw [out_at c]
      unfold cntF
      simp (disch := omega) only [sv_a]
      by_cases d : V 15 k = 0
      · simp only [d, if_true, sv_at, and_true]
        by_cases e : j = r <;> simp [e]
      · simp (disch := omega) only [d, if_false, sv_a, and_false]
    have e10 : ∀ j, outF r k V 10 j = if j = r ∧ ¬ V 15 k = 0 then V 10 j + -1 else V 10 j := by
      intro j
      rw [out_at c]
      unfold cntF
      simp (disch := omega) only [sv_a]
      by_cases d : V 15 k = 0
      · simp (disch := omega) only [d, if_true, sv_a, not_true_eq_false, and_false, if_false]
      · simp only [d, if_false, sv_at, not_false_eq_true, and_true]
        by_cases e : j = r <;> simp [e]
    intro r' hr'
    obtain ⟨q1, q2⟩ := h r' hr'
    have a1 := insF_pt (r := r') (per := 1) (c := if r' = r ∧ V 15 k = 0 then -1 else 0) e14 hk (io r' 1) (by
      rw [i1, i0 r' 1 hr', b2i_f]
      by_cases d : V 15 k = 0 <;> by_cases d2 : r' = r <;> simp [d, d2, b2i])
    have a2 := insF_pt (r := r') (per := 0) (c := if r' = r ∧ ¬ V 15 k = 0 then -1 else 0) e14 hk (io r' 0) (by
      rw [i1, i0 r' 0 hr', b2i_f]
      by_cases d : V 15 k = 0 <;> by_cases d2 : r' = r <;> simp [d, d2, b2i])
    rw [a1, a2, e9, e10, ← q1, ← q2]
    constructor
    · by_cases d : r' = r ∧ V 15 k = 0 <;> simp [d]
    · by_cases d : r' = r ∧ ¬ V 15 k = 0 <;> simp [d]
  · unfold outF
    rw [if_neg c]
    exact h
theorem CI_of (h9 : V' 9 = V 9) (h10 : V' 10 = V 10) (h14 : V' 14 = V 14) (h15 : V' 15 = V 15) (h19 : V' 19 = V 19) (h20 : V' 20 = V 20) (h : CI V) : CI V' := by
  intro r hr
  have e : nlF V' = nlF V := by unfold nlF; rw [h14]
  have q : ∀ per, insF V' r per = insF V r per := by
    intro per
    unfold insF insS insB
    rw [e, h15, h19, h20]
  rw [h9, h10, q, q]
  exact h r hr
theorem LI_of (h14 : V' 14 = V 14) (h16 : V' 16 = V 16) (h17 : V' 17 = V 17) (h : LI V) : LI V' := by
  intro k hk
  have e : nlF V' = nlF V := by unfold nlF; rw [h14]
  rw [e] at hk
  rw [h16, h17]
  exact h k hk
theorem CI_tk {r : Nat} {per : Int32} (hr : r < 12) : ∀ d V, CI V → CI (tkF r per d V) := by
  intro d
  induction d with
  | zero => intro V h; exact h
  | succ d ih =>
    intro V h
    unfold tkF
    rcases nexF_com (V := V) (pl := V 7 r) (up := V 2 r) (per := per) (now := V 0 5) with q | ⟨j, q, hj, hc⟩
    · rw [if_pos q]; exact h
    · split
      · exact h
      · rename_i z
        have hj2 : j < 2147483648 := by unfold nlF at hj; have := (V 14 0).toInt_lt; have k : (V 14 0).toNatClampNeg = (V 14 0).toInt.toNat := rfl; omega
        rw [q, ic_clamp hj2]
        unfold comB at hc
        simp only [decide_eq_true_eq] at hc
        exact ih _ (CI_get hr hj hc.1 h)
theorem CI_letOut {r : Nat} (hr : r < 12) (h : CI V) : CI (letOutF V r) := by
  have := itr_inv (f := outF r) (I := fun W => CI W ∧ nlF W = nlF V) (n := nlF V) (fun k W hk q => ⟨CI_out hr (by omega) q.1, by rw [← q.2]; unfold nlF; rw [outF_14]⟩) (nlF V) 0 V (by omega) ⟨h, rfl⟩
  exact this.1
theorem l_mtake {r : Nat} {per : Int32} (hr : r < 12) (hp : per = 0 ∨ per = 1) : ∀ d X V, MR X V → VOK V → LI V → d < 2147483648 → (∀ X', MR X' (tkF r per d V) → Fr X X' → K [] (hX u L xs X' Z)) → WP 136 0 35 [.ref 97, .int (ic r), .int per, .int (ic d), .int (nexF V (V 7 r) (V 2 r) per (V 0 5))] [] (hX u L xs X Z) K := by
  intro d
  induction d with
  | zero =>
    intro X V hm ho hl hd hK
    rw [w_136_35]
    simp only [en_136, w_136_0, w_136_1, w_136_4, w_136_5, w_136_8, w_136_9, w_136_10, w_136_13, w_136_14, w_136_17, w_136_18, w_136_19, w_136_20, w_136_21, w_136_22, w_136_25, w_136_26, w_136_27, w_136_28, w_136_29, w_136_30, w_136_33, w_136_36, w_136_41, w_136_44, w_136_45, w_136_48, w_136_50, w_136_52, w_136_53, w_136_54, w_136_55, w_136_56, w_136_59, w_136_62, w_136_64, w_136_65, w_136_66, w_136_67, w_136_68, w_136_71, w_136_74, w_136_76, w_136_77, w_136_78, w_136_81, w_136_83, w_136_84, w_136_87, w_136_88, w_136_89, w_136_91, w_136_94, w_136_95, w_136_98, w_136_99, w_136_102, w_136_104, w_136_105, w_136_106, w_136_109, w_136_110, w_136_113, w_136_114, w_136_116, w_136_119, w_136_120, w_136_121, w_136_122, w_136_123, w_136_124, w_136_125, w_136_128, w_136_130, w_136_131, w_136_132, w_136_133, w_136_134, w_136_135, w_136_138, w_136_141, w_136_143, w_136_144, w_136_145, w_136_146, w_136_147, w_136_150, w_136_151, w_136_152, w_136_153, w_136_156, w_136_158, w_136_161, show ic 0 ≤ 0 from Int32.le_refl _, if_true]
    exact hK X hm Fr_refl
  | succ d ih =>
    intro X V hm ho hl hd hK
    have e : (ic (d + 1) ≤ 0) = False := by rw [ic_z, ic_le (by omega) (by omega)]; exact eq_false (by omega)
    have h80 := ho.2.2.2
    rw [w_136_35]
    simp only [en_136, w_136_0, w_136_1, w_136_4, w_136_5, w_136_8, w_136_9, w_136_10, w_136_13, w_136_14, w_136_17, w_136_18, w_136_19, w_136_20, w_136_21, w_136_22, w_136_25, w_136_26, w_136_27, w_136_28, w_136_29, w_136_30, w_136_33, w_136_36, w_136_39, w_136_41, w_136_45, w_136_48, w_136_50, w_136_52, w_136_53, w_136_54, w_136_55, w_136_56, w_136_59, w_136_62, w_136_64, w_136_65, w_136_66, w_136_67, w_136_68, w_136_71, w_136_74, w_136_76, w_136_77, w_136_78, w_136_81, w_136_83, w_136_84, w_136_87, w_136_88, w_136_89, w_136_91, w_136_94, w_136_95, w_136_98, w_136_99, w_136_102, w_136_104, w_136_105, w_136_106, w_136_109, w_136_110, w_136_113, w_136_114, w_136_116, w_136_119, w_136_120, w_136_121, w_136_122, w_136_123, w_136_124, w_136_125, w_136_128, w_136_130, w_136_131, w_136_132, w_136_133, w_136_134, w_136_135, w_136_138, w_136_141, w_136_143, w_136_144, w_136_145, w_136_146, w_136_147, w_136_150, w_136_151, w_136_152, w_136_153, w_136_156, w_136_158, w_136_161, e, if_false]
    unfold tkF at hK
    rcases nexF_com (V := V) (pl := V 7 r) (up := V 2 r) (per := per) (now := V 0 5) with q | ⟨j, q, hj, hc⟩
    · rw [q] at hK ⊢
      simp only [show ((-1 : Int32) < 0) = True by decide, if_true] at hK ⊢
      exact hK X hm Fr_refl
    · have z : ¬ ic j = -1 := fun q => by have := ic_neg (n := j) (by omega); rw [q] at this; exact absurd this (by decide)
      rw [q] at hK ⊢
      rw [if_neg z, ic_clamp (by omega)] at hK
      simp (disch := omega) only [ic_neg, if_false]
      refine s_mtake hm ho hl hr hj (fun X' hm' hf => ?_)
      have ho' : VOK (getF V r j) := VOK_of (getF_ne (by decide) (by decide) (by decide) (by decide) (by decide) (by decide)) (getF_ne (by decide) (by decide) (by decide) (by decide) (by decide) (by decide)) ho
      have hl' : LI (getF V r j) := LI_of (getF_ne (by decide) (by decide) (by decide) (by decide) (by decide) (by decide)) (getF_ne (by decide) (by decide) (by decide) (by decide) (by decide) (by decide)) (getF_ne (by decide) (by decide) (by decide) (by decide) (by decide) (by decide)) hl
      simp (disch := first | assumption | omega) only [en_136, w_136_0, w_136_1, w_136_4, w_136_5, w_136_8, w_136_9, w_136_10, w_136_13, w_136_14, w_136_17, w_136_18, w_136_19, w_136_20, w_136_21, w_136_22, w_136_25, w_136_26, w_136_27, w_136_28, w_136_29, w_136_30, w_136_33, w_136_36, w_136_39, w_136_41, w_136_44, w_136_45, w_136_48, w_136_50, w_136_52, w_136_53, w_136_54, w_136_55, w_136_56, w_136_59, w_136_62, w_136_64, w_136_65, w_136_66, w_136_67, w_136_68, w_136_71, w_136_74, w_136_76, w_136_77, w_136_78, w_136_81, w_136_83, w_136_84, w_136_87, w_136_88, w_136_89, w_136_91, w_136_94, w_136_95, w_136_98, w_136_99, w_136_102, w_136_104, w_136_105, w_136_106, w_136_109, w_136_110, w_136_113, w_136_114, w_136_116, w_136_119, w_136_120, w_136_121, w_136_122, w_136_123, w_136_124, w_136_125, w_136_128, w_136_130, w_136_131, w_136_132, w_136_133, w_136_134, w_136_135, w_136_138, w_136_141, w_136_143, w_136_144, w_136_145, w_136_146, w_136_147, w_136_150, w_136_151, w_136_152, w_136_153, w_136_156, w_136_158, w_136_161, m_nextOf hm' ho' hl' hr hp, ne_thr, app1, true_and, ic_subn]
      exact ih X' _ hm' ho' hl' (by omega) (fun X2 h1 h2 => hK X2 h1 (Fr_tr hf h2))
theorem m_takesIn {r : Nat} {per : Int32} (hr : r < 12) (hp : per = 0 ∨ per = 1) (hm : MR X V) (ho : VOK V) (hl : LI V) (hc : CI V) (hK : ∀ X', MR X' (tkF r per (if per = 0 then V 4 r - V 10 r else V 3 r - V 9 r).toNatClampNeg V) → Fr X X' → K [] (hX u L xs X' Z)) : Call 136 [.ref 97, .int (ic r), .int per] (hX u L xs X Z) K := by
  have er : (r < 12) = True := eq_true hr
  have key : ∀ mo : Int32, mo = (if per = 0 then V 4 r - V 10 r else V 3 r - V 9 r) → WP 136 0 35 [.ref 97, .int (ic r), .int per, .int mo, .int (nexF V (V 7 r) (V 2 r) per (V 0 5))] [] (hX u L xs X Z) K := by
    intro mo hmo
    rw [← hmo] at hK
    by_cases h : mo < 0
    · have e : mo.toNatClampNeg = 0 := by
        rw [Int32.lt_iff_toInt_lt] at h
        have e : (0 : Int32).toInt = 0 := rfl
        have k : mo.toNatClampNeg = mo.toInt.toNat := rfl
        omega
      have e2 : mo ≤ 0 := by rw [nle]; exact Int32.lt_asymm h
      rw [e] at hK
      rw [w_136_35]
      simp only [en_136, w_136_0, w_136_1, w_136_4, w_136_5, w_136_8, w_136_9, w_136_10, w_136_13, w_136_14, w_136_17, w_136_18, w_136_19, w_136_20, w_136_21, w_136_22, w_136_25, w_136_26, w_136_27, w_136_28, w_136_29, w_136_30, w_136_33, w_136_36, w_136_41, w_136_44, w_136_45, w_136_48, w_136_50, w_136_52, w_136_53, w_136_54, w_136_55, w_136_56, w_136_59, w_136_62, w_136_64, w_136_65, w_136_66, w_136_67, w_136_68, w_136_71, w_136_74, w_136_76, w_136_77, w_136_78, w_136_81, w_136_83, w_136_84, w_136_87, w_136_88, w_136_89, w_136_91, w_136_94, w_136_95, w_136_98, w_136_99, w_136_102, w_136_104, w_136_105, w_136_106, w_136_109, w_136_110, w_136_113, w_136_114, w_136_116, w_136_119, w_136_120, w_136_121, w_136_122, w_136_123, w_136_124, w_136_125, w_136_128, w_136_130, w_136_131, w_136_132, w_136_133, w_136_134, w_136_135, w_136_138, w_136_141, w_136_143, w_136_144, w_136_145, w_136_146, w_136_147, w_136_150, w_136_151, w_136_152, w_136_153, w_136_156, w_136_158, w_136_161, e2, if_true]
      exact hK X hm Fr_refl
    · have q := ic_of h
      have g := l_mtake (u := u) (L := L) (xs := xs) (Z := Z) (K := K) hr hp mo.toNatClampNeg X V hm ho hl q.2 hK
      rw [← q.1] at g
      exact g
  obtain ⟨q1, q2⟩ := hc r hr
  rcases hp with rfl | rfl
  · simp (disch := first | assumption | omega) only [en_136, w_136_0, w_136_1, w_136_4, w_136_5, w_136_8, w_136_9, w_136_10, w_136_13, w_136_14, w_136_17, w_136_18, w_136_19, w_136_20, w_136_21, w_136_22, w_136_25, w_136_26, w_136_27, w_136_28, w_136_29, w_136_30, w_136_33, w_136_36, w_136_39, w_136_41, w_136_44, w_136_45, w_136_48, w_136_50, w_136_52, w_136_53, w_136_54, w_136_55, w_136_56, w_136_59, w_136_62, w_136_64, w_136_65, w_136_66, w_136_67, w_136_68, w_136_71, w_136_74, w_136_76, w_136_77, w_136_78, w_136_81, w_136_83, w_136_84, w_136_87, w_136_88, w_136_89, w_136_91, w_136_94, w_136_95, w_136_98, w_136_99, w_136_102, w_136_104, w_136_105, w_136_106, w_136_109, w_136_110, w_136_113, w_136_114, w_136_116, w_136_119, w_136_120, w_136_121, w_136_122, w_136_123, w_136_124, w_136_125, w_136_128, w_136_130, w_136_131, w_136_132, w_136_133, w_136_134, w_136_135, w_136_138, w_136_141, w_136_143, w_136_144, w_136_145, w_136_146, w_136_147, w_136_150, w_136_151, w_136_152, w_136_153, w_136_156, w_136_158, w_136_161, a0, a12, a24, a36, a48, a60, a72, a152, a232, a312, ic_clamp, inB_ic, er, true_and, if_true, m4 hm, m_inside hm ho, m_nextOf hm ho hl hr (Or.inl rfl), ne_thr, app1, List.cons_append, List.nil_append]
    exact key _ (by rw [if_pos rfl, q2])
  · simp (disch := first | assumption | omega) only [en_136, w_136_0, w_136_1, w_136_4, w_136_5, w_136_8, w_136_9, w_136_10, w_136_13, w_136_14, w_136_17, w_136_18, w_136_19, w_136_20, w_136_21, w_136_22, w_136_25, w_136_26, w_136_27, w_136_28, w_136_29, w_136_30, w_136_33, w_136_36, w_136_39, w_136_41, w_136_44, w_136_45, w_136_48, w_136_50, w_136_52, w_136_53, w_136_54, w_136_55, w_136_56, w_136_59, w_136_62, w_136_64, w_136_65, w_136_66, w_136_67, w_136_68, w_136_71, w_136_74, w_136_76, w_136_77, w_136_78, w_136_81, w_136_83, w_136_84, w_136_87, w_136_88, w_136_89, w_136_91, w_136_94, w_136_95, w_136_98, w_136_99, w_136_102, w_136_104, w_136_105, w_136_106, w_136_109, w_136_110, w_136_113, w_136_114, w_136_116, w_136_119, w_136_120, w_136_121, w_136_122, w_136_123, w_136_124, w_136_125, w_136_128, w_136_130, w_136_131, w_136_132, w_136_133, w_136_134, w_136_135, w_136_138, w_136_141, w_136_143, w_136_144, w_136_145, w_136_146, w_136_147, w_136_150, w_136_151, w_136_152, w_136_153, w_136_156, w_136_158, w_136_161, a0, a12, a24, a36, a48, a60, a72, a152, a232, a312, ic_clamp, inB_ic, er, true_and, show ((1 : Int32) = 0) = False by decide, if_false, m3 hm, m_inside hm ho, m_nextOf hm ho hl hr (Or.inr rfl), ne_thr, app1, List.cons_append, List.nil_append]
    exact key _ (by rw [if_neg (by decide), q1])
end
