/-! FEED -/
section
variable {u : Nat × Nat} {L : Nat} {xs : Nat → Int32} {X X' : Nat → Nat → Int32} {Z : Nat → Nat → Int64} {K : List Value → AH → Prop} {V W : Nat → Nat → Int32}
theorem fd_b (v : Int64) (s : Nat) (h : s ≤ 56) : (v.toBitVec >>> s).setWidth 32 &&& 255#32 = (v.toBitVec.sshiftRight s).setWidth 32 &&& 255#32 := by
  apply BitVec.eq_of_getLsbD_eq
  intro i hi
  by_cases c : i < 8
  · rw [BitVec.getLsbD_and, BitVec.getLsbD_and, BitVec.getLsbD_setWidth, BitVec.getLsbD_setWidth, BitVec.getLsbD_ushiftRight, BitVec.getLsbD_sshiftRight]
    rw [if_pos (by omega)]
    have h1 : (decide (64 ≤ i)) = false := by simp; omega
    simp [h1, hi]
  · have : (255#32).getLsbD i = false := by
      rw [BitVec.getLsbD_ofNat]
      rw [show 255 = 2^8 - 1 by rfl, Nat.testBit_two_pow_sub_one]
      simp
      omega
    rw [BitVec.getLsbD_and, BitVec.getLsbD_and, this]
    simp
def sB (v : Int64) (i : Nat) : Int32 := (v >>> ((ic (8*i)).toInt64 &&& 63)).toInt32 &&& 255
theorem fd_c (v : Int64) : ∀ i, i < 8 → ((v.toUInt64 >>> ((ic (8*i)).toInt64.toUInt64 &&& Int64.toUInt64 63)).toInt64).toInt32 &&& 255 = sB v i := by
  intro i hi
  unfold sB
  have e1 : ((ic (8*i)).toInt64.toUInt64 &&& Int64.toUInt64 63) = UInt64.ofNat (8 * i) ∧ ((ic (8*i)).toInt64 &&& 63) = Int64.ofNat (8 * i) := by
    have : ∀ i : Fin 8, ((ic (8*i.1)).toInt64.toUInt64 &&& Int64.toUInt64 63) = UInt64.ofNat (8 * i.1) ∧ ((ic (8*i.1)).toInt64 &&& 63) = Int64.ofNat (8 * i.1) := by decide +kernel
    exact this ⟨i, hi⟩
  rw [e1.1, e1.2]
  apply Int32.toBitVec_inj.1
  have := fd_b v (8 * i) (by omega)
  have k1 : (UInt64.ofNat (8*i)).toBitVec.toNat % 64 = 8 * i := by
    have : ∀ i : Fin 8, (UInt64.ofNat (8*i.1)).toBitVec.toNat % 64 = 8 * i.1 := by decide +kernel
    exact this ⟨i, hi⟩
  have k2 : ((Int64.ofNat (8*i)).toBitVec.smod 64).toNat = 8 * i := by
    have : ∀ i : Fin 8, ((Int64.ofNat (8*i.1)).toBitVec.smod 64).toNat = 8 * i.1 := by decide +kernel
    exact this ⟨i, hi⟩
  rw [Int32.toBitVec_and, Int32.toBitVec_and]
  simp only [Int64.toBitVec_toInt32, UInt64.toBitVec_toInt64, UInt64.toBitVec_shiftRight, Int64.toBitVec_shiftRight, Int64.toBitVec_toUInt64]
  rw [BitVec.sshiftRight', k2]
  rw [show (v.toBitVec >>> ((UInt64.ofNat (8*i)).toBitVec % 64)) = v.toBitVec >>> (8*i) from ?_]
  · rw [BitVec.signExtend_eq_setWidth_of_le _ (by decide), BitVec.signExtend_eq_setWidth_of_le _ (by decide)]
    exact this
  · rw [BitVec.ushiftRight_eq', BitVec.toNat_umod]
    rw [show BitVec.toNat (64 : BitVec 64) = 64 from rfl, k1]

theorem fd_a (x : Int32) : ∃ m, m < 256 ∧ x &&& 255 = ic m := by
  refine ⟨x.toBitVec.toNat % 256, by omega, ?_⟩
  unfold ic
  apply Int32.toBitVec_inj.1
  apply BitVec.eq_of_toNat_eq
  rw [Int32.toBitVec_and, BitVec.toNat_and]
  simp
  rw [show 255 = 2^8 - 1 by rfl, Nat.and_two_pow_sub_one_eq_mod]
  omega
theorem fd_n (v : Int64) (i : Nat) : vp_nar .char (((sB v i).toUInt32 % 65536).toInt32) = sB v i := by
  obtain ⟨m, hm, e⟩ := fd_a ((v >>> ((ic (8*i)).toInt64 &&& 63)).toInt32)
  unfold sB
  rw [e]
  have : ∀ m : Fin 256, vp_nar .char (((ic m.1).toUInt32 % 65536).toInt32) = ic m.1 := by decide +kernel
  exact this ⟨m, hm⟩
/-- signs that count -/
abbrev cts (b : Int32) : Prop := b = 10 ∨ (¬ b < 32 ∧ ¬ 126 < b)
def tpF (b : Int32) (p : Nat × (Nat → Int32)) : Nat × (Nat → Int32) := if cts b ∧ p.1 < 800 then (p.1 + 1, upd p.2 p.1 b) else p
def tp8 (v : Int64) : Nat → (Nat × (Nat → Int32)) → Nat × (Nat → Int32)
  | 0, p => p
  | i + 1, p => tp8 v i (tpF (sB v i) p)
def cT (X : Nat → Nat → Int32) (p : Nat × (Nat → Int32)) : Nat → Nat → Int32 := va_up (va_up X 9 (upd (X 9) 1 (ic p.1))) 10 p.2
def mT (X : Nat → Nat → Int32) (p : Nat × (Nat → Int32)) : Nat → Nat → Int32 := va_up (va_up X 97 (upd (X 97) 2 (ic p.1))) 98 p.2
theorem cT_91 {p : Nat × (Nat → Int32)} : cT X p 9 1 = ic p.1 := by simp [cT, va_up, upd]
theorem cT_10 {p : Nat × (Nat → Int32)} : cT X p 10 = p.2 := by simp [cT, va_up]
theorem cT_9 {p : Nat × (Nat → Int32)} {j : Nat} (h : j ≠ 1) : cT X p 9 j = X 9 j := by simp [cT, va_up, upd, h]
theorem cT_n {p : Nat × (Nat → Int32)} {a : Nat} (h : a ≠ 9) (g : a ≠ 10) : cT X p a = X a := by simp [cT, va_up, h, g]
theorem mT_2 {p : Nat × (Nat → Int32)} : mT X p 97 2 = ic p.1 := by simp [mT, va_up, upd]
theorem mT_98 {p : Nat × (Nat → Int32)} : mT X p 98 = p.2 := by simp [mT, va_up]
theorem mT_97 {p : Nat × (Nat → Int32)} {j : Nat} (h : j ≠ 2) : mT X p 97 j = X 97 j := by simp [mT, va_up, upd, h]
theorem mT_n {p : Nat × (Nat → Int32)} {a : Nat} (h : a ≠ 97) (g : a ≠ 98) : mT X p a = X a := by simp [mT, va_up, h, g]
theorem cT_up {p : Nat × (Nat → Int32)} {b : Int32} : va_up (va_up (cT X p) 10 (upd p.2 p.1 b)) 9 (upd (va_up (cT X p) 10 (upd p.2 p.1 b) 9) 1 (ic (p.1 + 1))) = cT X (p.1 + 1, upd p.2 p.1 b) := by
  funext a i
  simp only [cT, va_up, upd]
  by_cases h9 : a = 9
  · subst h9; simp; by_cases h1 : i = 1 <;> simp [h1, upd]
  · by_cases h10 : a = 10 <;> simp [h9, h10]
theorem mT_up {p : Nat × (Nat → Int32)} {b : Int32} : va_up (va_up (mT X p) 98 (upd p.2 p.1 b)) 97 (upd (va_up (mT X p) 98 (upd p.2 p.1 b) 97) 2 (ic (p.1 + 1))) = mT X (p.1 + 1, upd p.2 p.1 b) := by
  funext a i
  simp only [mT, va_up, upd]
  by_cases h9 : a = 97
  · subst h9; simp; by_cases h1 : i = 2 <;> simp [h1, upd]
  · by_cases h10 : a = 98 <;> simp [h9, h10]
theorem cT_id {n : Nat} (h : X 9 1 = ic n) : cT X (n, X 10) = X := by
  funext a i
  simp only [cT, va_up, upd]
  by_cases h10 : a = 10
  · simp [h10]
  · by_cases h9 : a = 9
    · subst h9; simp; by_cases h1 : i = 1 <;> simp [h1, h, upd]
    · simp [h9, h10]
theorem mT_id {n : Nat} (h : X 97 2 = ic n) : mT X (n, X 98) = X := by
  funext a i
  simp only [mT, va_up, upd]
  by_cases h10 : a = 98
  · simp [h10]
  · by_cases h9 : a = 97
    · subst h9; simp; by_cases h1 : i = 2 <;> simp [h1, h, upd]
    · simp [h9, h10]
theorem tpF_le {b : Int32} {p : Nat × (Nat → Int32)} (h : p.1 ≤ 800) : (tpF b p).1 ≤ 800 := by
  unfold tpF
  split
  · rename_i c; exact c.2
  · exact h
theorem tp8_le {v : Int64} : ∀ i p, p.1 ≤ 800 → (tp8 v i p).1 ≤ 800 := by
  intro i
  induction i with
  | zero => intro p h; exact h
  | succ i ih => intro p h; exact ih _ (tpF_le h)
theorem c_sign {v : Int64} {i : Nat} {p : Nat × (Nat → Int32)} {l4 l5 : Value} (hi : i < 8) (hp : p.1 ≤ 800) (hK : ∀ l4 l5, WP 54 0 3 [.ref 9, .long v, poi, .int (ic (8 * i) + (-8)), l4, l5] [] (hX u L xs (cT X (tpF (sB v i) p)) Z) K) : WP 54 0 3 [.ref 9, .long v, poi, .int (ic (8 * i)), l4, l5] [] (hX u L xs (cT X p) Z) K := by
  have e0 : (ic (8 * i) < 0) = False := ic_neg (by omega)
  have e8 : (800 ≤ p.1) = ¬ p.1 < 800 := by rw [eq_iff_iff]; omega
  have e9 : (p.1 ≤ 800) = True := eq_true hp
  have k1 : ∀ l5 : Value, ¬ (cts (sB v i) ∧ p.1 < 800) → WP 54 0 82 [.ref 9, .long v, poi, .int (ic (8 * i)), .int (sB v i), l5] [] (hX u L xs (cT X p) Z) K := by
    intro l5 h
    rw [w_54_82, w_54_85]
    have := hK (.int (sB v i)) l5
    unfold tpF at this
    rwa [if_neg h] at this
  have k2 : cts (sB v i) → WP 54 0 45 [.ref 9, .long v, poi, .int (ic (8 * i)), .int (sB v i), .int 1] [] (hX u L xs (cT X p) Z) K := by
    intro h
    by_cases c : p.1 < 800
    · have := hK (.int (sB v i)) (.int 1)
      unfold tpF at this
      rw [if_pos ⟨h, c⟩, ← cT_up] at this
      have ec : (p.1 < 800) = True := eq_true c
      simp (disch := first | assumption | omega) only [en_54, w_54_0, w_54_2, w_54_4, w_54_7, w_54_8, w_54_9, w_54_10, w_54_11, w_54_14, w_54_15, w_54_17, w_54_19, w_54_21, w_54_24, w_54_26, w_54_28, w_54_31, w_54_33, w_54_35, w_54_38, w_54_39, w_54_42, w_54_43, w_54_45, w_54_47, w_54_50, w_54_51, w_54_54, w_54_57, w_54_60, w_54_61, w_54_64, w_54_65, w_54_68, w_54_70, w_54_71, w_54_72, w_54_73, w_54_74, w_54_77, w_54_78, w_54_79, w_54_82, w_54_85, w_54_88, cT_91, cT_10, show ((1 : Int32) = 0) = False by decide, if_false, show (800 : Int32) = ic 800 from rfl, ic_le, e8, ec, not_true_eq_false, inB_ic, ic_clamp, true_and, fd_n, cT_n, ic_add1]
      have q9 : (va_up (cT X p) 10 (upd p.2 p.1 (sB v i))) 9 1 = ic p.1 := by
        simp only [va_up]; rw [if_neg (by decide), cT_91]
      rw [q9, ic_add1]
      exact this
    · have k := k1 (.int 1) (fun z => c z.2)
      have ec : (p.1 < 800) = False := eq_false c
      simp (disch := first | assumption | omega) only [en_54, w_54_0, w_54_2, w_54_4, w_54_7, w_54_8, w_54_9, w_54_10, w_54_11, w_54_14, w_54_15, w_54_17, w_54_19, w_54_21, w_54_24, w_54_26, w_54_28, w_54_31, w_54_33, w_54_35, w_54_38, w_54_39, w_54_42, w_54_43, w_54_45, w_54_47, w_54_50, w_54_51, w_54_54, w_54_57, w_54_61, w_54_64, w_54_65, w_54_68, w_54_70, w_54_71, w_54_72, w_54_73, w_54_74, w_54_77, w_54_78, w_54_79, w_54_85, w_54_88, cT_91, show ((1 : Int32) = 0) = False by decide, if_false, show (800 : Int32) = ic 800 from rfl, ic_le, e8, ec, not_false_eq_true, if_true]
      exact k
  have k3 : ¬ cts (sB v i) → WP 54 0 42 [.ref 9, .long v, poi, .int (ic (8 * i)), .int (sB v i), l5] [] (hX u L xs (cT X p) Z) K := by
    intro h
    have k := k1 (.int 0) (fun z => h z.1)
    simp only [en_54, w_54_0, w_54_2, w_54_4, w_54_7, w_54_8, w_54_9, w_54_10, w_54_11, w_54_14, w_54_15, w_54_17, w_54_19, w_54_21, w_54_24, w_54_26, w_54_28, w_54_31, w_54_33, w_54_35, w_54_38, w_54_39, w_54_42, w_54_43, w_54_45, w_54_47, w_54_51, w_54_54, w_54_57, w_54_60, w_54_61, w_54_64, w_54_65, w_54_68, w_54_70, w_54_71, w_54_72, w_54_73, w_54_74, w_54_77, w_54_78, w_54_79, w_54_85, w_54_88, if_true]
    exact k
  simp only [en_54, w_54_0, w_54_2, w_54_3, w_54_4, w_54_7, w_54_8, w_54_9, w_54_10, w_54_11, w_54_14, w_54_15, w_54_17, w_54_19, w_54_21, w_54_24, w_54_26, w_54_28, w_54_31, w_54_33, w_54_35, w_54_39, w_54_43, w_54_45, w_54_47, w_54_50, w_54_51, w_54_54, w_54_57, w_54_60, w_54_61, w_54_64, w_54_65, w_54_68, w_54_70, w_54_71, w_54_72, w_54_73, w_54_74, w_54_77, w_54_78, w_54_79, w_54_85, w_54_88, e0, if_false, fd_c v i hi]
  unfold cts at k2 k3
  by_cases d1 : sB v i = 10
  · rw [if_pos d1, w_54_38, w_54_39, w_54_43]
    exact k2 (Or.inl d1)
  · rw [if_neg d1]
    by_cases d2 : sB v i < 32
    · rw [if_pos d2]
      exact k3 (by simp [d1, d2])
    · rw [if_neg d2]
      by_cases d3 : 126 < sB v i
      · rw [if_pos d3]
        exact k3 (by simp [d1, d3])
      · rw [if_neg d3, w_54_38, w_54_39, w_54_43]
        exact k2 (Or.inr ⟨d2, d3⟩)
theorem ic_sub8 {i : Nat} : ic (8 * (i + 1)) + (-8) = ic (8 * i) := by
  rw [show 8 * (i + 1) = 8 * i + 8 by omega, ← ic_add, Int32.add_assoc, show ic 8 + (-8) = 0 by decide, Int32.add_zero]
theorem c_eight {v : Int64} : ∀ i p l4 l5, i < 8 → p.1 ≤ 800 → K [] (hX u L xs (cT X (tp8 v (i + 1) p)) Z) → WP 54 0 3 [.ref 9, .long v, poi, .int (ic (8 * i)), l4, l5] [] (hX u L xs (cT X p) Z) K := by
  intro i
  induction i with
  | zero =>
    intro p l4 l5 hi hp hK
    refine c_sign hi hp (fun l4 l5 => ?_)
    simp only [en_54, w_54_0, w_54_2, w_54_3, w_54_4, w_54_8, w_54_9, w_54_10, w_54_11, w_54_14, w_54_15, w_54_17, w_54_19, w_54_21, w_54_24, w_54_26, w_54_28, w_54_31, w_54_33, w_54_35, w_54_38, w_54_39, w_54_42, w_54_43, w_54_45, w_54_47, w_54_50, w_54_51, w_54_54, w_54_57, w_54_60, w_54_61, w_54_64, w_54_65, w_54_68, w_54_70, w_54_71, w_54_72, w_54_73, w_54_74, w_54_77, w_54_78, w_54_79, w_54_82, w_54_85, w_54_88, show (ic (8 * 0) + (-8) < 0) = True by decide, if_true]
    exact hK
  | succ i ih =>
    intro p l4 l5 hi hp hK
    refine c_sign hi hp (fun l4 l5 => ?_)
    rw [ic_sub8]
    exact ih _ _ _ (by omega) (tpF_le hp) hK
theorem c_addEight {v : Int64} {p : Nat × (Nat → Int32)} (hp : p.1 ≤ 800) (hK : K [] (hX u L xs (cT X (tp8 v 8 p)) Z)) : Call 54 [.ref 9, .long v] (hX u L xs (cT X p) Z) K := by
  rw [en_54, w_54_0, w_54_2]
  exact c_eight 7 p _ _ (by omega) hp hK
theorem m_sign {v : Int64} {i : Nat} {p : Nat × (Nat → Int32)} {l4 : Value} (hi : i < 8) (hp : p.1 ≤ 800) (hK : ∀ l4, WP 95 0 3 [.ref 97, .long v, poi, .int (ic (8 * i) + (-8)), l4] [] (hX u L xs (mT X (tpF (sB v i) p)) Z) K) : WP 95 0 3 [.ref 97, .long v, poi, .int (ic (8 * i)), l4] [] (hX u L xs (mT X p) Z) K := by
  have e0 : (ic (8 * i) < 0) = False := ic_neg (by omega)
  have e8 : (800 ≤ p.1) = ¬ p.1 < 800 := by rw [eq_iff_iff]; omega
  have k1 : ¬ (cts (sB v i) ∧ p.1 < 800) → WP 95 0 69 [.ref 97, .long v, poi, .int (ic (8 * i)), .int (sB v i)] [] (hX u L xs (mT X p) Z) K := by
    intro h
    rw [w_95_69, w_95_72]
    have := hK (.int (sB v i))
    unfold tpF at this
    rwa [if_neg h] at this
  have k2 : cts (sB v i) → WP 95 0 38 [.ref 97, .long v, poi, .int (ic (8 * i)), .int (sB v i)] [] (hX u L xs (mT X p) Z) K := by
    intro h
    by_cases c : p.1 < 800
    · have := hK (.int (sB v i))
      unfold tpF at this
      rw [if_pos ⟨h, c⟩, ← mT_up] at this
      have ec : (p.1 < 800) = True := eq_true c
      simp (disch := first | assumption | omega) only [en_95, w_95_0, w_95_2, w_95_4, w_95_7, w_95_8, w_95_9, w_95_10, w_95_11, w_95_14, w_95_15, w_95_17, w_95_19, w_95_21, w_95_24, w_95_26, w_95_28, w_95_31, w_95_33, w_95_35, w_95_38, w_95_39, w_95_42, w_95_45, w_95_48, w_95_49, w_95_52, w_95_53, w_95_56, w_95_58, w_95_59, w_95_60, w_95_61, w_95_64, w_95_65, w_95_66, w_95_69, w_95_72, w_95_75, mT_2, mT_98, if_false, show (800 : Int32) = ic 800 from rfl, ic_le, e8, ec, not_true_eq_false, inB_ic, ic_clamp, true_and, mT_n, ic_add1]
      have q9 : (va_up (mT X p) 98 (upd p.2 p.1 (sB v i))) 97 2 = ic p.1 := by
        simp only [va_up]; rw [if_neg (by decide), mT_2]
      rw [q9, ic_add1]
      exact this
    · have k := k1 (fun z => c z.2)
      have ec : (p.1 < 800) = False := eq_false c
      simp (disch := first | assumption | omega) only [en_95, w_95_0, w_95_2, w_95_4, w_95_7, w_95_8, w_95_9, w_95_10, w_95_11, w_95_14, w_95_15, w_95_17, w_95_19, w_95_21, w_95_24, w_95_26, w_95_28, w_95_31, w_95_33, w_95_35, w_95_38, w_95_39, w_95_42, w_95_45, w_95_49, w_95_52, w_95_53, w_95_56, w_95_58, w_95_59, w_95_60, w_95_61, w_95_64, w_95_65, w_95_66, w_95_72, w_95_75, mT_2, show (800 : Int32) = ic 800 from rfl, ic_le, e8, ec, not_false_eq_true, if_true]
      exact k
  have k3 : ¬ cts (sB v i) → WP 95 0 69 [.ref 97, .long v, poi, .int (ic (8 * i)), .int (sB v i)] [] (hX u L xs (mT X p) Z) K := fun h => k1 (fun z => h z.1)
  have eb : (v >>> ((ic (8*i)).toInt64 &&& 63)).toInt32 &&& 255 = sB v i := rfl
  simp only [en_95, w_95_0, w_95_2, w_95_3, w_95_4, w_95_7, w_95_8, w_95_9, w_95_10, w_95_11, w_95_14, w_95_15, w_95_17, w_95_19, w_95_21, w_95_24, w_95_26, w_95_28, w_95_31, w_95_33, w_95_35, w_95_39, w_95_42, w_95_45, w_95_48, w_95_49, w_95_52, w_95_53, w_95_56, w_95_58, w_95_59, w_95_60, w_95_61, w_95_64, w_95_65, w_95_66, w_95_72, w_95_75, e0, if_false, eb]
  unfold cts at k2 k3
  by_cases d1 : sB v i = 10
  · rw [if_pos d1]
    exact k2 (Or.inl d1)
  · rw [if_neg d1]
    by_cases d2 : sB v i < 32
    · rw [if_pos d2]
      exact k3 (by simp [d1, d2])
    · rw [if_neg d2]
      by_cases d3 : 126 < sB v i
      · rw [if_pos d3]
        exact k3 (by simp [d1, d3])
      · rw [if_neg d3]
        exact k2 (Or.inr ⟨d2, d3⟩)
theorem m_eight {v : Int64} : ∀ i p l4, i < 8 → p.1 ≤ 800 → K [] (hX u L xs (mT X (tp8 v (i + 1) p)) Z) → WP 95 0 3 [.ref 97, .long v, poi, .int (ic (8 * i)), l4] [] (hX u L xs (mT X p) Z) K := by
  intro i
  induction i with
  | zero =>
    intro p l4 hi hp hK
    refine m_sign hi hp (fun l4 => ?_)
    simp only [en_95, w_95_0, w_95_2, w_95_3, w_95_4, w_95_8, w_95_9, w_95_10, w_95_11, w_95_14, w_95_15, w_95_17, w_95_19, w_95_21, w_95_24, w_95_26, w_95_28, w_95_31, w_95_33, w_95_35, w_95_38, w_95_39, w_95_42, w_95_45, w_95_48, w_95_49, w_95_52, w_95_53, w_95_56, w_95_58, w_95_59, w_95_60, w_95_61, w_95_64, w_95_65, w_95_66, w_95_69, w_95_72, w_95_75, show (ic (8 * 0) + (-8) < 0) = True by decide, if_true]
    exact hK
  | succ i ih =>
    intro p l4 hi hp hK
    refine m_sign hi hp (fun l4 => ?_)
    rw [ic_sub8]
    exact ih _ _ (by omega) (tpF_le hp) hK
theorem m_lay {v : Int64} {p : Nat × (Nat → Int32)} (hp : p.1 ≤ 800) (hK : K [] (hX u L xs (mT X (tp8 v 8 p)) Z)) : Call 95 [.ref 97, .long v] (hX u L xs (mT X p) Z) K := by
  rw [en_95, w_95_0, w_95_2]
  exact m_eight 7 p _ (by omega) hp hK
/-- two tapes with the same signs -/
def tpR (p q : Nat × (Nat → Int32)) : Prop := p.1 = q.1 ∧ p.1 ≤ 800 ∧ ∀ i, i < p.1 → q.2 i = p.2 i ∧ cts (p.2 i)
theorem tpR_F {b : Int32} {p q : Nat × (Nat → Int32)} (h : tpR p q) : tpR (tpF b p) (tpF b q) := by
  obtain ⟨h1, h2, h3⟩ := h
  unfold tpF
  rw [← h1]
  split
  · rename_i c
    refine ⟨rfl, by simp; omega, fun i hi => ?_⟩
    simp only [upd] at hi ⊢
    by_cases e : i = p.1
    · simp [e, c.1]
    · simp [e]; exact h3 i (by omega)
  · exact ⟨h1, h2, h3⟩
theorem tpR_8 {v : Int64} : ∀ i p q, tpR p q → tpR (tp8 v i p) (tp8 v i q) := by
  intro i
  induction i with
  | zero => intro p q h; exact h
  | succ i ih => intro p q h; exact ih _ _ (tpR_F h)
theorem GI_tx (hg : GI X) (h0 : X' 0 = X 0) (hc : ∀ a, (1 ≤ a ∧ a ≤ 8) ∨ (25 ≤ a ∧ a < 49) ∨ (103 ≤ a ∧ a ≤ 119) → X' a = X a) (h97 : ∀ j, j = 10 ∨ j = 13 ∨ j = 18 ∨ j = 23 ∨ j = 28 ∨ j = 46 → X' 97 j = X 97 j) (hru : RuOK X' (lnN X') (szN X')) (htx : TX X') (htp : TP X') : GI X' := by
  obtain ⟨⟨⟨s1, s2, s3⟩, hm, hw, hb, hf, nw, hn6, hn⟩, h46, _⟩ := hg
  have e1 := hc 1 (by omega)
  have np : npN X' = npN X := by unfold npN; rw [e1]
  have w25 : wz X' 25 = wz X 25 := wz_of (fun a h1 h2 => hc a (by omega))
  refine ⟨⟨⟨?_, ?_, htx⟩, by rw [w25]; exact MR_same (h97 23 (by omega)) (h97 13 (by omega)) (h97 18 (by omega)) (fun a h1 h2 => hc a (by omega)) (fun i _ => by rw [hc 113 (by omega)]) hm, by rw [w25, np]; exact hw, by rw [w25]; exact hb, by rw [w25]; exact hf, nw, hn6, by rw [w25]; exact hn⟩, ?_, htp⟩
  · obtain ⟨r1, r2, r3, r4, r5, r6, _⟩ := s1
    have ns : nsN X' = nsN X := by unfold nsN; rw [e1]
    unfold RdOK
    rw [np, ns, e1, hc 2 (by omega)]
    exact ⟨r1, r2, r3, r4, r5, r6, hru⟩
  · unfold RR
    rw [h97 10 (by omega), h97 28 (by omega), e1, hc 2 (by omega), hc 3 (by omega), hc 4 (by omega), hc 5 (by omega), hc 6 (by omega), hc 7 (by omega), hc 8 (by omega), hc 103 (by omega), hc 104 (by omega), hc 115 (by omega), hc 116 (by omega), hc 117 (by omega), hc 118 (by omega), hc 119 (by omega)]
    exact s2
  · rw [h97 46 (by omega), h0]; exact h46
theorem TX_of (h11 : X' 11 = X 11) (h12 : X' 12 = X 12) (h13 : X' 13 = X 13) (h14 : X' 14 = X 14) (h15 : X' 15 = X 15) (h38 : X' 97 38 = X 97 38) (hc : ∀ a, 120 ≤ a → a ≤ 125 → X' a = X a) (g : TX X) : TX X' := by
  have ek : kdF X' = kdF X := by funext i; unfold kdF; rw [h15]
  have eu : nuF X' = nuF X := by funext i; unfold nuF; rw [h15]
  have el : lnN X' = lnN X := by unfold lnN; rw [h11]
  have ee : enN X' = enN X := by funext l; unfold enN; rw [h14]
  have es : stN X' = stN X := by funext l; unfold stN; rw [ee]
  unfold TX cdOK dpOK at g ⊢
  rw [el, es, ee, ek, eu, h38, h11, h12, h13, hc 120 (by omega) (by omega), hc 121 (by omega) (by omega), hc 122 (by omega) (by omega), hc 123 (by omega) (by omega), hc 124 (by omega) (by omega), hc 125 (by omega) (by omega)]
  exact g
theorem Ru_of {ln sz : Nat} (h11 : X' 11 = X 11) (h14 : X' 14 = X 14) (g : RuOK X ln sz) : RuOK X' ln sz := by
  have ee : enN X' = enN X := by funext l; unfold enN; rw [h14]
  unfold RuOK
  rw [h11, h14, ee]
  exact g
theorem op_feed {a b c : Int64} (hg : GI X) : Two u L xs 81 94 [.ref 0, .long a, .long b, .long c] [.ref 97, .long a, .long b, .long c] X Z := by
  have hg' := hg
  obtain ⟨⟨hs, hm, hw, hb, hf, nw, hn6, hn⟩, h46, htp⟩ := hg
  obtain ⟨t1, n, t2, t3, t4⟩ := htp
  unfold Two
  have r0 : tpR (n, X 10) (n, X 98) := ⟨rfl, t2, t4⟩
  have r1 := tpR_8 (v := a) 8 _ _ r0
  have r2 := tpR_8 (v := b) 8 _ _ r1
  have r3 := tpR_8 (v := c) 8 _ _ r2
  have g1 : hX u L xs X Z = hX u L xs (cT X (n, X 10)) Z := by rw [cT_id t3]
  rw [g1, en_81, w_81_0, w_81_1, w_81_4, w_81_5]
  refine c_addEight t2 ⟨by simp, ?_⟩
  rw [app0, w_81_8, w_81_9, w_81_12, w_81_13]
  refine c_addEight r1.2.1 ⟨by simp, ?_⟩
  rw [app0, w_81_16, w_81_17, w_81_20, w_81_22]
  refine c_addEight r2.2.1 ⟨by simp, ?_⟩
  rw [app0, w_81_25, w_81_26, w_81_29, w_81_32, cT_91]
  refine ⟨_, _, rfl, rfl, ?_⟩
  generalize hp : tp8 c 8 (tp8 b 8 (tp8 a 8 (n, X 10))) = p at r3 ⊢
  generalize hX1 : cT X p = X1
  have x97 : X1 97 = X 97 := by rw [← hX1]; exact cT_n (by decide) (by decide)
  have x98 : X1 98 = X 98 := by rw [← hX1]; exact cT_n (by decide) (by decide)
  rw [en_94, w_94_0, w_94_1, w_94_2, sv_d]
  generalize hX2 : sv X1 97 0 0 = X2
  have g2 : hX u L xs X2 Z = hX u L xs (mT X2 (n, X 98)) Z := by
    have : X 98 = X2 98 := by rw [← hX2, sv_a (by decide), x98]
    rw [this, mT_id (by rw [← hX2, sv_i (by decide), x97, t1, t3])]
  rw [g2, w_94_5, w_94_6, w_94_7]
  refine m_lay t2 ⟨by simp, ?_⟩
  rw [app0, w_94_10, w_94_11, w_94_12]
  refine m_lay (by rw [← r1.1]; exact r1.2.1) ⟨by simp, ?_⟩
  rw [app0, w_94_15, w_94_16, w_94_18]
  refine m_lay (by rw [← r2.1]; exact r2.2.1) ⟨by simp, ?_⟩
  rw [app0, w_94_21, w_94_22, w_94_25, mT_2]
  refine ⟨by rw [r3.1], _, Z, rfl, rfl, ?_⟩
  generalize tp8 c 8 (tp8 b 8 (tp8 a 8 (n, X 98))) = q at r3 ⊢
  have hn' : ∀ a, a ≠ 9 → a ≠ 10 → a ≠ 97 → a ≠ 98 → mT X2 q a = X a := fun a a1 a2 a3 a4 => by rw [mT_n a3 a4, ← hX2, sv_a a3, ← hX1, cT_n a1 a2]
  have h97' : ∀ j, j ≠ 0 → j ≠ 2 → mT X2 q 97 j = X 97 j := fun j j1 j2 => by rw [mT_97 j2, ← hX2, sv_i j1, x97]
  have h9' : mT X2 q 9 1 = ic p.1 := by rw [mT_n (by decide) (by decide), ← hX2, sv_a (by decide), ← hX1, cT_91]
  have h10' : mT X2 q 10 = p.2 := by rw [mT_n (by decide) (by decide), ← hX2, sv_a (by decide), ← hX1, cT_10]
  refine GI_tx hg' (hn' 0 (by decide) (by decide) (by decide) (by decide)) (fun a ha => hn' a (by omega) (by omega) (by omega) (by omega)) (fun j hj => h97' j (by omega) (by omega)) ?_ ?_ ?_
  · have e11 := hn' 11 (by decide) (by decide) (by decide) (by decide)
    have q := Ru_of e11 (hn' 14 (by decide) (by decide) (by decide) (by decide)) hs.1.2.2.2.2.2.2
    unfold lnN szN
    rw [e11]
    exact q
  · exact TX_of (hn' 11 (by decide) (by decide) (by decide) (by decide)) (hn' 12 (by decide) (by decide) (by decide) (by decide)) (hn' 13 (by decide) (by decide) (by decide) (by decide)) (hn' 14 (by decide) (by decide) (by decide) (by decide)) (hn' 15 (by decide) (by decide) (by decide) (by decide)) (h97' 38 (by decide) (by decide)) (fun a h1 h2 => hn' a (by omega) (by omega) (by omega) (by omega)) hs.2.2
  · refine ⟨by rw [mT_2, h9', r3.1], p.1, r3.2.1, h9', fun i hi => ?_⟩
    rw [mT_98, h10']
    exact r3.2.2 i hi
end
