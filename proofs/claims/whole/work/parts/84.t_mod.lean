/-! TEXT: the model's small methods over its tokens -/
section
variable {u : Nat × Nat} {L : Nat} {xs : Nat → Int32} {X X' : Nat → Nat → Int32} {Z Z' : Nat → Nat → Int64} {K : List Value → AH → Prop} {V W : Nat → Nat → Int32} {Kd Nu : Nat → Int32} {nt nx : Nat}
/-- where the model stands: at, fault, codes, deep; the codes; the operators that wait -/
abbrev MG : Type := (Nat × Int32 × Nat × Nat) × (Nat → Int32) × (Nat → Int32) × (Nat → Int32) × (Nat → Int32) × (Nat → Int32)
def gS (X : Nat → Nat → Int32) (g : MG) : Nat → Nat → Int32 := fun a => if a = 97 then (fun j => if j = 7 then ic g.1.1 else if j = 8 then g.1.2.1 else if j = 40 then ic g.1.2.2.1 else if j = 41 then ic g.1.2.2.2 else X 97 j) else if a = 124 then g.2.1 else if a = 125 then g.2.2.1 else if a = 126 then g.2.2.2.1 else if a = 127 then g.2.2.2.2.1 else if a = 128 then g.2.2.2.2.2 else X a
def gAt (p : Nat) (g : MG) : MG := ((p, g.1.2), g.2)
def gFa (f : Int32) (g : MG) : MG := ((g.1.1, f, g.1.2.2), g.2)
def gDe (d : Nat) (g : MG) : MG := ((g.1.1, g.1.2.1, g.1.2.2.1, d), g.2)
def gEm (nx : Nat) (o v : Int32) (g : MG) : MG := ((g.1.1, g.1.2.1, g.1.2.2.1 + 1, g.1.2.2.2), upd g.2.1 (880 * nx + g.1.2.2.1) o, upd g.2.2.1 (880 * nx + g.1.2.2.1) v, g.2.2.2)
def gA (i : Nat) (v : Int32) (g : MG) : MG := (g.1, g.2.1, g.2.2.1, upd g.2.2.2.1 i v, g.2.2.2.2)
def gB (i : Nat) (v : Int32) (g : MG) : MG := (g.1, g.2.1, g.2.2.1, g.2.2.2.1, upd g.2.2.2.2.1 i v, g.2.2.2.2.2)
def gC (i : Nat) (v : Int32) (g : MG) : MG := (g.1, g.2.1, g.2.2.1, g.2.2.2.1, g.2.2.2.2.1, upd g.2.2.2.2.2 i v)
section
variable {g : MG}
theorem gS_7 : gS X g 97 7 = ic g.1.1 := by simp [gS]
theorem gS_8 : gS X g 97 8 = g.1.2.1 := by simp [gS]
theorem gS_40 : gS X g 97 40 = ic g.1.2.2.1 := by simp [gS]
theorem gS_41 : gS X g 97 41 = ic g.1.2.2.2 := by simp [gS]
theorem gS_97 {j : Nat} (h1 : j ≠ 7) (h2 : j ≠ 8) (h3 : j ≠ 40) (h4 : j ≠ 41) : gS X g 97 j = X 97 j := by simp [gS, h1, h2, h3, h4]
theorem gS_39 : gS X g 97 39 = X 97 39 := gS_97 (by decide) (by decide) (by decide) (by decide)
theorem gS_124 : gS X g 124 = g.2.1 := by simp [gS]
theorem gS_125 : gS X g 125 = g.2.2.1 := by simp [gS]
theorem gS_126 : gS X g 126 = g.2.2.2.1 := by simp [gS]
theorem gS_127 : gS X g 127 = g.2.2.2.2.1 := by simp [gS]
theorem gS_128 : gS X g 128 = g.2.2.2.2.2 := by simp [gS]
theorem gS_n {a : Nat} (h : a ≠ 97) (h2 : a < 124 ∨ 128 < a) : gS X g a = X a := by
  unfold gS
  rw [if_neg h, if_neg (by omega), if_neg (by omega), if_neg (by omega), if_neg (by omega), if_neg (by omega)]
theorem gS_99 : gS X g 99 = X 99 := gS_n (by decide) (by decide)
theorem gS_100 : gS X g 100 = X 100 := gS_n (by decide) (by decide)
theorem gs_at {p : Nat} : va_up (gS X g) 97 (upd (gS X g 97) 7 (ic p)) = gS X (gAt p g) := by
  funext a i
  by_cases h : a = 97
  · subst h
    by_cases h1 : i = 7 <;> simp [gS, va_up, upd, gAt, h1]
  · simp [gS, va_up, gAt, h]
theorem gs_fa {f : Int32} : va_up (gS X g) 97 (upd (gS X g 97) 8 f) = gS X (gFa f g) := by
  funext a i
  by_cases h : a = 97
  · subst h
    by_cases h1 : i = 8 <;> simp [gS, va_up, upd, gFa, h1]
  · simp [gS, va_up, gFa, h]
theorem gs_de {d : Nat} : va_up (gS X g) 97 (upd (gS X g 97) 41 (ic d)) = gS X (gDe d g) := by
  funext a i
  by_cases h : a = 97
  · subst h
    by_cases h1 : i = 41 <;> simp [gS, va_up, upd, gDe, h1]
  · simp [gS, va_up, gDe, h]
theorem gs_a {i : Nat} {v : Int32} : va_up (gS X g) 126 (upd g.2.2.2.1 i v) = gS X (gA i v g) := by
  funext a j
  by_cases h : a = 126
  · subst h; simp [gS, va_up, gA]
  · by_cases h2 : a = 97 <;> simp [gS, va_up, gA, h, h2]
theorem gs_b {i : Nat} {v : Int32} : va_up (gS X g) 127 (upd g.2.2.2.2.1 i v) = gS X (gB i v g) := by
  funext a j
  by_cases h : a = 127
  · subst h; simp [gS, va_up, gB]
  · by_cases h2 : a = 97 <;> simp [gS, va_up, gB, h, h2]
theorem gs_c {i : Nat} {v : Int32} : va_up (gS X g) 128 (upd g.2.2.2.2.2 i v) = gS X (gC i v g) := by
  funext a j
  by_cases h : a = 128
  · subst h; simp [gS, va_up, gC]
  · by_cases h2 : a = 97 <;> simp [gS, va_up, gC, h, h2]
theorem gs_em {o v : Int32} {i c : Nat} : va_up (va_up (va_up (gS X g) 124 (upd g.2.1 i o)) 125 (upd g.2.2.1 i v)) 97 (upd (va_up (va_up (gS X g) 124 (upd g.2.1 i o)) 125 (upd g.2.2.1 i v) 97) 40 (ic c)) = gS X ((g.1.1, g.1.2.1, c, g.1.2.2.2), upd g.2.1 i o, upd g.2.2.1 i v, g.2.2.2) := by
  funext a j
  by_cases h : a = 97
  · subst h
    by_cases h1 : j = 40 <;> simp [gS, va_up, upd, h1]
  · by_cases h2 : a = 124 <;> by_cases h3 : a = 125 <;> simp [gS, va_up, h, h2, h3]
end
theorem cmp0 {x y : Int64} : (lg_cmp x y = 0) = (x = y) := by
  unfold lg_cmp
  by_cases c : x > y
  · rw [if_pos c]
    have : x ≠ y := fun e => by subst e; exact Int64.lt_irrefl c
    simp [this]
  · rw [if_neg c]
    by_cases d : x = y <;> simp [d]
theorem cmpL {x y : Int64} : (lg_cmp x y < 0) = (x < y) := by
  unfold lg_cmp
  have e1 : ((1 : Int32) < 0) = False := by decide
  have e2 : ((0 : Int32) < 0) = False := by decide
  have e3 : ((-1 : Int32) < 0) = True := by decide
  by_cases c : x > y
  · rw [if_pos c, e1, eq_iff_iff]
    simp only [false_iff]
    intro h
    exact absurd h (Int64.not_lt.2 (Int64.le_of_lt c))
  · rw [if_neg c]
    by_cases d : x = y
    · rw [if_pos d, e2, d, eq_iff_iff]
      simp only [false_iff]
      exact fun h => Int64.lt_irrefl h
    · rw [if_neg d, e3, eq_iff_iff]
      simp only [true_iff]
      exact Int64.lt_of_le_of_ne (Int64.not_lt.1 c) d
theorem cmpG {x y : Int64} : (lg_cmp x y ≤ 0) = ¬ y < x := by
  unfold lg_cmp
  by_cases c : x > y
  · rw [if_pos c, eq_iff_iff]
    exact ⟨fun h => absurd h (by decide), fun h => absurd c h⟩
  · rw [if_neg c, eq_iff_iff]
    refine ⟨fun _ => c, fun _ => ?_⟩
    by_cases d : x = y
    · rw [if_pos d]; decide
    · rw [if_neg d]; decide
theorem i64_lt {a b : Int32} : (a.toInt64 < b.toInt64) = (a < b) := by
  rw [eq_iff_iff, Int64.lt_iff_toInt_lt, Int32.lt_iff_toInt_lt, Int32.toInt_toInt64, Int32.toInt_toInt64]
def ME (Kd Nu : Nat → Int32) (nt nx : Nat) (X : Nat → Nat → Int32) (Z : Nat → Nat → Int64) : Prop := nt ≤ 800 ∧ nx < 2 ∧ X 97 39 = ic nx ∧ (∀ i, i ≤ nt → tkR (Kd i) (Nu i) (X 99 i) (Z 101 i)) ∧ (∀ w, w < 11 → Z 102 w = wdV w) ∧ ∀ i, i ≤ nt → ∃ s, s ≤ 800 ∧ X 100 i = ic s
section
variable {g : MG}
theorem m_sign0 {c : Int32} (hm : ME Kd Nu nt nx X Z) (hc : isS c) (hf : g.1.2.1 = 0) (hp : g.1.1 ≤ nt) : Call 103 [.ref 97, .int c] (hX u L xs (gS X g) Z) K ↔ K [.int (b2i (decide (Kd g.1.1 = c)))] (hX u L xs (gS X g) Z) := by
  obtain ⟨h8, _, _, ht, _, _⟩ := hm
  have hr := (ht _ hp).2.2.2.1 c hc
  have e8 : (g.1.1 < 802) = True := eq_true (by omega)
  simp (disch := first | assumption | omega) only [en_103, w_103_0, w_103_1, w_103_4, w_103_7, w_103_8, w_103_11, w_103_12, w_103_15, w_103_16, w_103_17, w_103_20, w_103_21, w_103_24, w_103_25, w_103_28, w_103_29, w_103_30, w_103_31, w_103_32, w_103_35, w_103_36, w_103_39, w_103_40, gS_7, gS_8, hf, not_true_eq_false, if_false, inB_ic, ic_clamp, e8, true_and, gS_99, cmp0, zb0, zb1]
  by_cases a : X 99 g.1.1 = 3
  · by_cases b : Z 101 g.1.1 = c.toInt64
    · have := hr.1 ⟨a, b⟩
      simp [a, b, this, b2i]
    · have : ¬ Kd g.1.1 = c := fun e => b (hr.2 e).2
      simp [a, b, this, b2i]
  · have : ¬ Kd g.1.1 = c := fun e => a (hr.2 e).1
    simp [a, this, b2i]
theorem m_sign1 {c : Int32} (hf : g.1.2.1 ≠ 0) : Call 103 [.ref 97, .int c] (hX u L xs (gS X g) Z) K ↔ K [.int 0] (hX u L xs (gS X g) Z) := by
  have hf' : (g.1.2.1 = 0) = False := eq_false hf
  simp only [en_103, w_103_0, w_103_1, w_103_4, w_103_8, w_103_11, w_103_12, w_103_15, w_103_16, w_103_17, w_103_20, w_103_21, w_103_24, w_103_25, w_103_28, w_103_29, w_103_30, w_103_31, w_103_32, w_103_35, w_103_36, w_103_39, w_103_40, gS_8, hf', not_false_eq_true, if_true, zb0, true_and]
theorem m_word0 {w : Nat} (hm : ME Kd Nu nt nx X Z) (hw : w < 11) (hf : g.1.2.1 = 0) (hp : g.1.1 ≤ nt) : Call 104 [.ref 97, .int (ic w)] (hX u L xs (gS X g) Z) K ↔ K [.int (b2i (decide (Kd g.1.1 = ic (129 + w))))] (hX u L xs (gS X g) Z) := by
  obtain ⟨h8, _, _, ht, hz, _⟩ := hm
  have hr := (ht _ hp).2.2.2.2.1 w hw
  have hzw := hz w hw
  have e8 : (g.1.1 < 802) = True := eq_true (by omega)
  have ew : (w < 11) = True := eq_true hw
  simp (disch := first | assumption | omega) only [en_104, w_104_0, w_104_1, w_104_4, w_104_7, w_104_8, w_104_11, w_104_12, w_104_15, w_104_16, w_104_17, w_104_20, w_104_21, w_104_24, w_104_25, w_104_28, w_104_29, w_104_30, w_104_33, w_104_34, w_104_35, w_104_36, w_104_39, w_104_40, w_104_43, w_104_44, gS_7, gS_8, hf, not_true_eq_false, if_false, inB_ic, ic_clamp, e8, ew, true_and, gS_99, cmp0, zb0, zb1, hzw]
  by_cases a : X 99 g.1.1 = 1
  · by_cases b : Z 101 g.1.1 = wdV w
    · have := hr.1 ⟨a, b⟩
      simp [a, b, this, b2i]
    · have : ¬ Kd g.1.1 = ic (129 + w) := fun e => b (hr.2 e).2
      simp [a, b, this, b2i]
  · have : ¬ Kd g.1.1 = ic (129 + w) := fun e => a (hr.2 e).1
    simp [a, this, b2i]
theorem m_word1 {c : Int32} (hf : g.1.2.1 ≠ 0) : Call 104 [.ref 97, .int c] (hX u L xs (gS X g) Z) K ↔ K [.int 0] (hX u L xs (gS X g) Z) := by
  have hf' : (g.1.2.1 = 0) = False := eq_false hf
  simp only [en_104, w_104_0, w_104_1, w_104_4, w_104_8, w_104_11, w_104_12, w_104_15, w_104_16, w_104_17, w_104_20, w_104_21, w_104_24, w_104_25, w_104_28, w_104_29, w_104_30, w_104_33, w_104_34, w_104_35, w_104_36, w_104_39, w_104_40, w_104_43, w_104_44, gS_8, hf', not_false_eq_true, if_true, zb0, true_and]
theorem m_wrong0 {f : Int32} (hm : ME Kd Nu nt nx X Z) (hf : g.1.2.1 = 0) (hp : g.1.1 ≤ nt) : Call 102 [.ref 97, .int f] (hX u L xs (gS X g) Z) K ↔ K [] (hX u L xs (gS X (gFa (f + 16 * X 100 g.1.1) g)) Z) := by
  obtain ⟨h8, _, _, ht, hz, _⟩ := hm
  have e8 : (g.1.1 < 802) = True := eq_true (by omega)
  simp (disch := first | assumption | omega) only [en_102, w_102_0, w_102_1, w_102_4, w_102_7, w_102_8, w_102_9, w_102_11, w_102_12, w_102_15, w_102_16, w_102_19, w_102_20, w_102_21, w_102_22, w_102_25, gS_7, gS_8, hf, not_true_eq_false, if_false, inB_ic, ic_clamp, e8, true_and, gS_100, gs_fa]
theorem m_wrong1 {f : Int32} (hf : g.1.2.1 ≠ 0) : Call 102 [.ref 97, .int f] (hX u L xs (gS X g) Z) K ↔ K [] (hX u L xs (gS X g) Z) := by
  have hf' : (g.1.2.1 = 0) = False := eq_false hf
  rw [en_102]
  simp only [w_102_0, w_102_1, w_102_4, gS_8, hf', not_false_eq_true, if_true, en_102, w_102_0, w_102_1, w_102_4, w_102_8, w_102_9, w_102_11, w_102_12, w_102_15, w_102_16, w_102_19, w_102_20, w_102_21, w_102_22, w_102_25]
theorem ic_880 {k : Nat} (h : nx < 2) : (880 : Int32) * ic nx + ic k = ic (880 * nx + k) := by
  rw [show (880 : Int32) = ic 880 from rfl]
  unfold ic
  rw [← Int32.ofNat_mul, ← Int32.ofNat_add]
theorem m_emit {o v : Int32} (hn : nx < 2) (h39 : X 97 39 = ic nx) (hc : g.1.2.2.1 < 880) : Call 117 [.ref 97, .int o, .int v] (hX u L xs (gS X g) Z) K ↔ K [] (hX u L xs (gS X (gEm nx o v g)) Z) := by
  have e1 : (880 * nx + g.1.2.2.1 < 1760) = True := eq_true (by omega)
  have a1 : va_up (gS X g) 124 (upd g.2.1 (880 * nx + g.1.2.2.1) o) 97 = gS X g 97 := by simp [va_up]
  have a2 : va_up (gS X g) 124 (upd g.2.1 (880 * nx + g.1.2.2.1) o) 125 = g.2.2.1 := by rw [show va_up (gS X g) 124 (upd g.2.1 (880 * nx + g.1.2.2.1) o) 125 = gS X g 125 by simp [va_up], gS_125]
  have a3 : va_up (va_up (gS X g) 124 (upd g.2.1 (880 * nx + g.1.2.2.1) o)) 125 (upd g.2.2.1 (880 * nx + g.1.2.2.1) v) 97 40 = ic g.1.2.2.1 := by rw [show va_up (va_up (gS X g) 124 (upd g.2.1 (880 * nx + g.1.2.2.1) o)) 125 (upd g.2.2.1 (880 * nx + g.1.2.2.1) v) 97 = gS X g 97 by simp [va_up], gS_40]
  simp (disch := first | assumption | omega) only [en_117, w_117_0, w_117_1, w_117_4, w_117_7, w_117_8, w_117_11, w_117_12, w_117_13, w_117_16, w_117_17, w_117_18, w_117_19, w_117_20, w_117_23, w_117_26, w_117_27, w_117_30, w_117_31, w_117_32, w_117_35, w_117_36, w_117_37, w_117_38, w_117_39, w_117_40, w_117_43, w_117_44, w_117_45, w_117_48, gS_39, gS_40, h39, ic_880, inB_ic, ic_clamp, e1, true_and, gS_124, a1, a2, a3, ic_add1, gs_em]
  exact Iff.rfl
theorem m_takeSign0 {c : Int32} (hm : ME Kd Nu nt nx X Z) (hc : isS c) (hf : g.1.2.1 = 0) (hp : g.1.1 ≤ nt) : Call 105 [.ref 97, .int c] (hX u L xs (gS X g) Z) K ↔ K [] (hX u L xs (gS X (if Kd g.1.1 = c then gAt (g.1.1 + 1) g else gFa (1 + 16 * X 100 g.1.1) g)) Z) := by
  by_cases q : Kd g.1.1 = c
  · have q' : (decide (Kd g.1.1 = c)) = true := by simpa using q
    simp only [en_105, w_105_0, w_105_1, w_105_2, w_105_5, w_105_8, w_105_9, w_105_10, w_105_13, w_105_14, w_105_15, w_105_18, w_105_21, w_105_22, w_105_23, w_105_26, m_sign0 hm hc hf hp, ne_thr, app1, true_and, b2i_z, q', gS_7, ic_add1, gs_at, if_pos q, Bool.true_eq_false, if_false]
  · have q' : (decide (Kd g.1.1 = c)) = false := by simpa using q
    simp only [en_105, w_105_0, w_105_1, w_105_2, w_105_5, w_105_8, w_105_9, w_105_10, w_105_13, w_105_14, w_105_15, w_105_18, w_105_21, w_105_22, w_105_23, w_105_26, m_sign0 hm hc hf hp, ne_thr, app1, true_and, b2i_z, q', if_true, m_wrong0 hm hf hp, ne_thr0, app0, if_neg q]
theorem m_takeSign1 {c : Int32} (hf : g.1.2.1 ≠ 0) : Call 105 [.ref 97, .int c] (hX u L xs (gS X g) Z) K ↔ K [] (hX u L xs (gS X g) Z) := by
  simp only [en_105, w_105_0, w_105_1, w_105_2, w_105_5, w_105_8, w_105_9, w_105_10, w_105_13, w_105_14, w_105_15, w_105_18, w_105_21, w_105_22, w_105_23, w_105_26, m_sign1 hf, ne_thr, app1, true_and, if_true, m_wrong1 hf, ne_thr0, app0]
theorem gAt_id : gAt g.1.1 g = g := rfl
theorem m_hasSign0 {c : Int32} (hm : ME Kd Nu nt nx X Z) (hc : isS c) (hf : g.1.2.1 = 0) (hp : g.1.1 ≤ nt) : Call 106 [.ref 97, .int c] (hX u L xs (gS X g) Z) K ↔ K [.int (b2i (decide (Kd g.1.1 = c)))] (hX u L xs (gS X (if Kd g.1.1 = c then gAt (g.1.1 + 1) g else g)) Z) := by
  by_cases q : Kd g.1.1 = c
  · have q' : (decide (Kd g.1.1 = c)) = true := by simpa using q
    simp only [en_106, w_106_0, w_106_1, w_106_2, w_106_5, w_106_6, w_106_7, w_106_8, w_106_11, w_106_12, w_106_15, w_106_16, w_106_19, w_106_20, w_106_21, w_106_24, w_106_25, m_sign0 hm hc hf hp, ne_thr, app1, true_and, q', b2i_t, show ((1 : Int32) = 0) = False by decide, if_false, gS_7, ic_add1, gs_at, if_pos q, zb1]
  · have q' : (decide (Kd g.1.1 = c)) = false := by simpa using q
    simp only [en_106, w_106_0, w_106_1, w_106_2, w_106_5, w_106_6, w_106_7, w_106_8, w_106_11, w_106_12, w_106_15, w_106_16, w_106_19, w_106_20, w_106_21, w_106_24, w_106_25, m_sign0 hm hc hf hp, ne_thr, app1, true_and, q', b2i_f, if_true, gS_7, Int32.add_zero, gs_at, gAt_id, if_neg q, zb0]
theorem m_takeWord0 {w : Nat} (hm : ME Kd Nu nt nx X Z) (hw : w < 11) (hf : g.1.2.1 = 0) (hp : g.1.1 ≤ nt) : Call 108 [.ref 97, .int (ic w)] (hX u L xs (gS X g) Z) K ↔ K [] (hX u L xs (gS X (if Kd g.1.1 = ic (129 + w) then gAt (g.1.1 + 1) g else gFa (1 + 16 * X 100 g.1.1) g)) Z) := by
  by_cases q : Kd g.1.1 = ic (129 + w)
  · have q' : (decide (Kd g.1.1 = ic (129 + w))) = true := by simpa using q
    simp only [en_108, w_108_0, w_108_1, w_108_2, w_108_5, w_108_8, w_108_9, w_108_10, w_108_13, en_107, w_107_0, w_107_1, w_107_2, w_107_5, w_107_6, w_107_7, w_107_8, w_107_11, w_107_12, w_107_15, w_107_16, w_107_19, w_107_20, w_107_21, w_107_24, w_107_25, m_word0 hm hw hf hp, ne_thr, app1, true_and, q', b2i_t, show ((1 : Int32) = 0) = False by decide, if_false, gS_7, ic_add1, gs_at, if_pos q, zb1, not_false_eq_true, if_true]
  · have q' : (decide (Kd g.1.1 = ic (129 + w))) = false := by simpa using q
    simp only [en_108, w_108_0, w_108_1, w_108_2, w_108_5, w_108_8, w_108_9, w_108_10, w_108_13, en_107, w_107_0, w_107_1, w_107_2, w_107_5, w_107_6, w_107_7, w_107_8, w_107_11, w_107_12, w_107_15, w_107_16, w_107_19, w_107_20, w_107_21, w_107_24, w_107_25, m_word0 hm hw hf hp, ne_thr, app1, true_and, q', b2i_f, if_true, gS_7, Int32.add_zero, gs_at, gAt_id, if_neg q, zb0, not_true_eq_false, if_false, m_wrong0 hm hf hp, ne_thr0, app0]
theorem m_takeWord1 {c : Int32} (hf : g.1.2.1 ≠ 0) : Call 108 [.ref 97, .int c] (hX u L xs (gS X g) Z) K ↔ K [] (hX u L xs (gS X g) Z) := by
  simp only [en_108, w_108_0, w_108_1, w_108_2, w_108_5, w_108_8, w_108_9, w_108_10, w_108_13, en_107, w_107_0, w_107_1, w_107_2, w_107_5, w_107_6, w_107_7, w_107_8, w_107_11, w_107_12, w_107_15, w_107_16, w_107_19, w_107_20, w_107_21, w_107_24, w_107_25, m_word1 hf, ne_thr, app1, true_and, if_true, gS_7, Int32.add_zero, gs_at, gAt_id, zb0, not_true_eq_false, if_false, m_wrong1 hf, ne_thr0, app0]
theorem m_opens (hd : g.1.2.2.2 < 7) : Call 121 [.ref 97] (hX u L xs (gS X g) Z) K ↔ K [] (hX u L xs (gS X (gC g.1.2.2.2 0 (gB g.1.2.2.2 0 (gA g.1.2.2.2 0 g)))) Z) := by
  have e7 : (g.1.2.2.2 < 7) = True := eq_true hd
  have d1 : (gA g.1.2.2.2 0 g).1.2.2.2 = g.1.2.2.2 := rfl
  have d2 : (gB g.1.2.2.2 0 (gA g.1.2.2.2 0 g)).1.2.2.2 = g.1.2.2.2 := rfl
  simp (disch := first | assumption | omega) only [en_121, w_121_0, w_121_1, w_121_4, w_121_5, w_121_8, w_121_9, w_121_10, w_121_11, w_121_14, w_121_15, w_121_18, w_121_19, w_121_20, w_121_21, w_121_24, w_121_25, w_121_28, w_121_29, w_121_30, gS_41, inB_ic, ic_clamp, e7, true_and, gS_126, gs_a, d1, gS_127, gs_b, d2, gS_128, gs_c]
theorem pos16 {f s : Nat} (h1 : 0 < f) (h2 : f ≤ 5) (hs : s ≤ 800) : ¬ (ic f + 16 * ic s ≤ 0) ∧ ic f + 16 * ic s ≠ 0 := by
  have e : ic f + 16 * ic s = ic (f + 16 * s) := by
    rw [show (16 : Int32) = ic 16 from rfl]
    unfold ic
    rw [← Int32.ofNat_mul, ← Int32.ofNat_add]
  rw [e, show (0 : Int32) = ic 0 from rfl, ic_le (by omega) (by omega), ne_eq, ic_eq (by omega) (by omega)]
  omega
theorem m_takeN0 {lo hi : Int32} (hm : ME Kd Nu nt nx X Z) (hf : g.1.2.1 = 0) (hp : g.1.1 ≤ nt) : Call 118 [.ref 97, .int lo, .int hi] (hX u L xs (gS X g) Z) K ↔ K [.int (if Kd g.1.1 = 128 ∧ (¬ Nu g.1.1 < lo ∧ ¬ hi < Nu g.1.1) then Nu g.1.1 else 0)] (hX u L xs (gS X (gAt (g.1.1 + 1) (if Kd g.1.1 = 128 then (if ¬ Nu g.1.1 < lo ∧ ¬ hi < Nu g.1.1 then g else gFa (4 + 16 * X 100 g.1.1) g) else gFa (1 + 16 * X 100 g.1.1) g))) Z) := by
  obtain ⟨h8, _, _, ht, hz, hsp⟩ := hm
  obtain ⟨t1, t2, t3, _⟩ := ht _ hp
  obtain ⟨s, hs, es⟩ := hsp _ hp
  have e8 : (g.1.1 < 802) = True := eq_true (by omega)
  have hm' : ME Kd Nu nt nx X Z := ⟨h8, by assumption, by assumption, ht, hz, hsp⟩
  -- behind a fault
  have k70 : ∀ f : Int32, ¬ f ≤ 0 → (WP 118 0 70 [.ref 97, .int lo, .int hi] [] (hX u L xs (gS X (gFa f g)) Z) K ↔ K [.int 0] (hX u L xs (gS X (gAt (g.1.1 + 1) (gFa f g))) Z)) := by
    intro f hf2
    have a1 : (gAt (g.1.1 + 1) (gFa f g)).1.2.1 = f := rfl
    have a2 : (gFa f g).1.1 = g.1.1 := rfl
    have hf3 : (f ≤ 0) = False := eq_false hf2
    simp only [w_118_70, w_118_71, w_118_72, w_118_75, w_118_76, w_118_77, gS_7, ic_add1, gs_at, w_118_80, w_118_81, gS_8, a1, a2, w_118_84, hf3, if_false, w_118_87, w_118_88, w_118_103]
  by_cases q : Kd g.1.1 = 128
  · have q2 := t1.1 q
    have q3 := t2 q
    have w4 := (pos16 (f := 4) (s := s) (by omega) (by omega) hs).1
    rw [← es] at w4
    have k65 : ¬ (¬ Nu g.1.1 < lo ∧ ¬ hi < Nu g.1.1) → (WP 118 0 65 [.ref 97, .int lo, .int hi] [] (hX u L xs (gS X g) Z) K ↔ K [.int (if Kd g.1.1 = 128 ∧ (¬ Nu g.1.1 < lo ∧ ¬ hi < Nu g.1.1) then Nu g.1.1 else 0)] (hX u L xs (gS X (gAt (g.1.1 + 1) (if Kd g.1.1 = 128 then (if ¬ Nu g.1.1 < lo ∧ ¬ hi < Nu g.1.1 then g else gFa (4 + 16 * X 100 g.1.1) g) else gFa (1 + 16 * X 100 g.1.1) g))) Z)) := by
      intro z
      rw [w_118_65, w_118_66, w_118_67, m_wrong0 hm' hf hp, if_neg (fun y => z y.2), if_pos q, if_neg z]
      simp only [ne_thr0, app0, true_and]
      exact k70 _ w4
    rw [en_118]
    simp (disch := first | assumption | omega) only [w_118_0, w_118_1, w_118_4, gS_8, hf, not_true_eq_false, if_false, w_118_7, w_118_8, w_118_11, w_118_12, gS_7, w_118_15, inB_ic, ic_clamp, e8, true_and, gS_99, q2, w_118_16, w_118_17, if_true, w_118_28, w_118_29, w_118_32, w_118_35, w_118_36, w_118_39, w_118_40, w_118_43, q3, w_118_44, w_118_45, w_118_46, w_118_47, cmpL, i64_lt, w_118_50, w_118_51, w_118_54, w_118_55, w_118_58, w_118_59, w_118_60, w_118_61, w_118_62, cmpG]
    by_cases b1 : Nu g.1.1 < lo
    · rw [if_pos b1]; exact k65 (fun z => z.1 b1)
    · rw [if_neg b1]
      by_cases b2 : hi < Nu g.1.1
      · rw [if_neg (by simp [b2])]; exact k65 (fun z => z.2 b2)
      · have z : ¬ Nu g.1.1 < lo ∧ ¬ hi < Nu g.1.1 := ⟨b1, b2⟩
        have a1 : (gAt (g.1.1 + 1) g).1.2.1 = g.1.2.1 := rfl
        have a2 : (gAt (g.1.1 + 1) g).1.1 = g.1.1 + 1 := rfl
        have e0 : ((0 : Int32) ≤ 0) = True := by decide
        have e3 : ic (g.1.1 + 1) - 1 = ic g.1.1 := by rw [← ic_add1]; exact Int32.add_sub_cancel _ _
        have e4 : (Nu g.1.1).toInt64.toInt32 = Nu g.1.1 := by
          obtain ⟨m, hm1, hm2⟩ := t3
          exact Int32.toInt32_toInt64 _
        rw [if_pos b2, if_pos ⟨q, z⟩, if_pos q, if_pos z]
        simp (disch := first | assumption | omega) only [w_118_70, w_118_71, w_118_72, w_118_75, w_118_76, w_118_77, gS_7, ic_add1, gs_at, w_118_80, w_118_81, gS_8, a1, a2, hf, w_118_84, e0, if_true, w_118_91, w_118_92, w_118_95, w_118_96, w_118_99, w_118_100, e3, w_118_101, inB_ic, ic_clamp, e8, true_and, q3, w_118_102, e4, w_118_103]
  · have q2 : ¬ X 99 g.1.1 = 2 := fun e => q (t1.2 e)
    have w1 := (pos16 (f := 1) (s := s) (by omega) (by omega) hs).1
    rw [← es] at w1
    rw [if_neg (fun y => q y.1), if_neg q, en_118]
    simp (disch := first | assumption | omega) only [w_118_0, w_118_1, w_118_4, gS_8, hf, not_true_eq_false, if_false, w_118_7, w_118_8, w_118_11, w_118_12, gS_7, w_118_15, inB_ic, ic_clamp, e8, true_and, gS_99, q2, w_118_16, w_118_17, w_118_20, w_118_21, w_118_22, m_wrong0 hm' hf hp, ne_thr0, app0, w_118_25]
    exact k70 _ w1
theorem m_takeN1 {lo hi : Int32} (hf : ¬ g.1.2.1 ≤ 0) (hf0 : g.1.2.1 ≠ 0) : Call 118 [.ref 97, .int lo, .int hi] (hX u L xs (gS X g) Z) K ↔ K [.int 0] (hX u L xs (gS X (gAt (g.1.1 + 1) g)) Z) := by
  have hf' : (g.1.2.1 = 0) = False := eq_false hf0
  have hf3 : (g.1.2.1 ≤ 0) = False := eq_false hf
  have a1 : (gAt (g.1.1 + 1) g).1.2.1 = g.1.2.1 := rfl
  rw [en_118]
  simp only [w_118_0, w_118_1, w_118_4, gS_8, hf', not_false_eq_true, if_true, w_118_28, w_118_29, w_118_32, w_118_70, w_118_71, w_118_72, w_118_75, w_118_76, w_118_77, gS_7, ic_add1, gs_at, w_118_80, w_118_81, a1, w_118_84, hf3, if_false, w_118_87, w_118_88, w_118_103]
def pwF (kd : Int32) : Int32 := if kd < 133 then -1 else kd - 133
theorem l_pw (hm : ME Kd Nu nt nx X Z) (hf : g.1.2.1 = 0) (hp : g.1.1 ≤ nt) : ∀ d k, k + d = 7 → (∀ j, j < k → Kd g.1.1 ≠ ic (133 + j)) → (WP 122 0 2 [.ref 97, .int (ic k)] [] (hX u L xs (gS X g) Z) K ↔ K [.int (pwF (Kd g.1.1))] (hX u L xs (gS X g) Z)) := by
  intro d
  induction d with
  | zero =>
    intro k hk hj
    have e : k = 7 := by omega
    subst e
    have : pwF (Kd g.1.1) = -1 := by
      unfold pwF
      obtain ⟨_, _, _, ht, _, _⟩ := hm
      rcases (ht _ hp).2.2.2.2.2.1 with h | ⟨w, h1, h2, h3⟩
      · rw [if_pos h]
      · have := hj (w - 4) (by omega)
        rw [show 133 + (w - 4) = 129 + w by omega] at this
        exact absurd h3 this
    rw [this]
    simp only [w_122_2, w_122_3, w_122_5, show ((7 : Int32) ≤ ic 7) = True by decide, if_true, w_122_26, w_122_27]
  | succ d ih =>
    intro k hk hj
    have e1 : (7 ≤ ic k) = False := by rw [show (7 : Int32) = ic 7 from rfl, ic_le (by omega) (by omega)]; exact eq_false (by omega)
    rw [w_122_2, w_122_3, w_122_5]
    simp only [e1, if_false, w_122_8, w_122_9, w_122_10, w_122_11]
    rw [show (4 : Int32) + ic k = ic (4 + k) from ic_add (a := 4), w_122_12, m_word0 hm (by omega) hf hp]
    simp only [ne_thr, app1, true_and, w_122_15, b2i_z, show 129 + (4 + k) = 133 + k by omega]
    by_cases c : Kd g.1.1 = ic (133 + k)
    · have : pwF (Kd g.1.1) = ic k := by
        unfold pwF
        rw [c, if_neg (by rw [show (133 : Int32) = ic 133 from rfl, ic_lt (by omega) (by omega)]; omega), show (133 : Int32) = ic 133 from rfl, ic_subN (by omega), Nat.add_sub_cancel_left]
      rw [this, if_neg (by simp [c]), w_122_18, w_122_19]
    · rw [if_pos (by simp [c]), w_122_20, w_122_23, ic_add1]
      refine ih (k + 1) (by omega) (fun j hj2 => ?_)
      by_cases e : j = k
      · subst e; exact c
      · exact hj j (by omega)
theorem m_partWord (hm : ME Kd Nu nt nx X Z) (hf : g.1.2.1 = 0) (hp : g.1.1 ≤ nt) : Call 122 [.ref 97] (hX u L xs (gS X g) Z) K ↔ K [.int (pwF (Kd g.1.1))] (hX u L xs (gS X g) Z) := by
  rw [en_122, w_122_0, w_122_1]
  exact l_pw hm hf hp 7 0 rfl (fun j hj => absurd hj (Nat.not_lt_zero _))
end
end
