/-! TEXT: the tokens of class and model stand for each other -/
section
variable {u : Nat × Nat} {L : Nat} {xs : Nat → Int32} {X X' : Nat → Nat → Int32} {Z Z' : Nat → Nat → Int64} {K : List Value → AH → Prop} {V W : Nat → Nat → Int32} {T : Nat → Int32} {n : Nat}
def lc (m : Nat) : Int64 := Int64.ofNat m
theorem lc_toInt {m : Nat} (h : m < 9223372036854775808) : (lc m).toInt = m := by
  unfold lc
  rw [Int64.toInt_ofNat_of_lt (by omega)]
theorem lc_inj {a b : Nat} (ha : a < 9223372036854775808) (hb : b < 9223372036854775808) (h : lc a = lc b) : a = b := by
  have := congrArg Int64.toInt h
  rw [lc_toInt ha, lc_toInt hb] at this
  omega
theorem lc_add {a b : Nat} : lc a + lc b = lc (a + b) := by unfold lc; rw [Int64.ofNat_add]
theorem lc_mul {a b : Nat} : lc a * lc b = lc (a * b) := by unfold lc; rw [Int64.ofNat_mul]
theorem ic_lc {m : Nat} (h : m < 2147483648) : (ic m).toInt64 = lc m := by
  apply Int64.toInt_inj.1
  rw [Int32.toInt_toInt64, ic_toInt h, lc_toInt (by omega)]
theorem i64_inj {a b : Int32} (h : a.toInt64 = b.toInt64) : a = b := by
  have := congrArg Int64.toInt h
  rw [Int32.toInt_toInt64, Int32.toInt_toInt64] at this
  exact Int32.toInt_inj.1 this
def hF (c : Nat → Nat) : Nat → Nat
  | 0 => 0
  | m + 1 => 37 * hF c m + c m
theorem hF_lt {c : Nat → Nat} : ∀ m, (∀ j, j < m → c j ≤ 26) → hF c m < 37 ^ m := by
  intro m
  induction m with
  | zero => intro _; exact Nat.zero_lt_one
  | succ m ih =>
    intro h
    have h1 := ih (fun j hj => h j (by omega))
    have h2 := h m (by omega)
    unfold hF
    rw [Nat.pow_succ]
    omega
theorem hF_inj {c b : Nat → Nat} : ∀ m k, (∀ j, j < m → 1 ≤ c j ∧ c j ≤ 26) → (∀ j, j < k → 1 ≤ b j ∧ b j ≤ 26) → hF c m = hF b k → m = k ∧ ∀ j, j < m → c j = b j := by
  intro m
  induction m with
  | zero =>
    intro k hc hb h
    cases k with
    | zero => exact ⟨rfl, fun j hj => absurd hj (Nat.not_lt_zero _)⟩
    | succ k =>
      have := hb k (by omega)
      unfold hF at h
      omega
  | succ m ih =>
    intro k hc hb h
    cases k with
    | zero =>
      have := hc m (by omega)
      unfold hF at h
      omega
    | succ k =>
      have h1 := hc m (by omega)
      have h2 := hb k (by omega)
      unfold hF at h
      obtain ⟨q1, q2⟩ := ih k (fun j hj => hc j (by omega)) (fun j hj => hb j (by omega)) (by omega)
      subst q1
      refine ⟨rfl, fun j hj => ?_⟩
      by_cases e : j = m
      · subst e; omega
      · exact q2 j (by omega)
def wlN (w : Nat) : Nat := [2, 4, 4, 3, 2, 6, 6, 4, 4, 4, 5].getD w 0
def wcN (w j : Nat) : Nat := (wdC (8 * w + j)).toNatClampNeg - 96
def wdV (w : Nat) : Int64 := [57, 1166741, 1176170, 1891, 793, 1119656265, 1402347749, 609950, 609928, 426554, 38396690].getD w 0
theorem wd_f : ∀ w, w < 11 → wlN w ≤ 8 ∧ lc (hF (wcN w) (wlN w)) = wdV w ∧ (∀ j, j < 8 → (j < wlN w → wdC (8 * w + j) = ic (96 + wcN w j) ∧ 1 ≤ wcN w j ∧ wcN w j ≤ 26) ∧ (¬ j < wlN w → wdC (8 * w + j) = 32)) := by
  have : ∀ w : Fin 11, wlN w.1 ≤ 8 ∧ lc (hF (wcN w.1) (wlN w.1)) = wdV w.1 ∧ (∀ j : Fin 8, (j.1 < wlN w.1 → wdC (8 * w.1 + j.1) = ic (96 + wcN w.1 j.1) ∧ 1 ≤ wcN w.1 j.1 ∧ wcN w.1 j.1 ≤ 26) ∧ (¬ j.1 < wlN w.1 → wdC (8 * w.1 + j.1) = 32)) := by decide +kernel
  intro w hw
  obtain ⟨a, b, c⟩ := this ⟨w, hw⟩
  exact ⟨a, b, fun j hj => c ⟨j, hj⟩⟩
theorem wd_inj : ∀ w, w < 11 → ∀ v, v < 11 → wdV w = wdV v → w = v := by
  have : ∀ w : Fin 11, ∀ v : Fin 11, wdV w.1 = wdV v.1 → w.1 = v.1 := by decide +kernel
  exact fun w hw v hv => this ⟨w, hw⟩ ⟨v, hv⟩
theorem hw_iff {s e sl : Nat} : ∀ d j, hwF T s e sl d j = true ↔ ∀ i, j ≤ i → i < j + d → wdC (sl + i) = (if s + i < e then T (s + i) else 32) := by
  intro d
  induction d with
  | zero => intro j; exact ⟨fun _ i h1 h2 => absurd h2 (by omega), fun _ => rfl⟩
  | succ d ih =>
    intro j
    unfold hwF
    by_cases c : wdC (sl + j) = (if s + j < e then T (s + j) else 32)
    · rw [if_pos c, ih (j + 1)]
      constructor
      · intro h i h1 h2
        by_cases q : i = j
        · subst q; exact c
        · exact h i (by omega) (by omega)
      · intro h i h1 h2
        exact h i (by omega) (by omega)
    · rw [if_neg c]
      exact ⟨fun h => absurd h (by decide), fun h => absurd (h j (by omega) (by omega)) c⟩
/-- the letters of a word, counted from 1 -/
def ltN (T : Nat → Int32) (s j : Nat) : Nat := (T (s + j)).toNatClampNeg - 96
theorem isL_N {v : Int32} (h : isL v) : ∃ m, v = ic (96 + m) ∧ 1 ≤ m ∧ m ≤ 26 := by
  obtain ⟨h1, h2⟩ := h
  have h0 : ¬ v < 0 := fun q => h1 (by rw [Int32.lt_iff_toInt_lt] at q ⊢; have a1 : (0 : Int32).toInt = 0 := rfl; have a2 : (97 : Int32).toInt = 97 := rfl; omega)
  obtain ⟨e, l⟩ := ic_of h0
  rw [e, show (97 : Int32) = ic 97 from rfl, ic_lt l (by omega)] at h1
  rw [e, show (122 : Int32) = ic 122 from rfl, ic_lt (by omega) l] at h2
  refine ⟨v.toNatClampNeg - 96, ?_, by omega, by omega⟩
  rw [show 96 + (v.toNatClampNeg - 96) = v.toNatClampNeg by omega]
  exact e
theorem isD_N {v : Int32} (h : isD v) : ∃ m, v = ic (48 + m) ∧ m ≤ 9 := by
  obtain ⟨h1, h2⟩ := h
  have h0 : ¬ v < 0 := fun q => h1 (by rw [Int32.lt_iff_toInt_lt] at q ⊢; have a1 : (0 : Int32).toInt = 0 := rfl; have a2 : (48 : Int32).toInt = 48 := rfl; omega)
  obtain ⟨e, l⟩ := ic_of h0
  rw [e, show (48 : Int32) = ic 48 from rfl, ic_lt l (by omega)] at h1
  rw [e, show (57 : Int32) = ic 57 from rfl, ic_lt (by omega) l] at h2
  refine ⟨v.toNatClampNeg - 48, ?_, by omega⟩
  rw [show 48 + (v.toNatClampNeg - 48) = v.toNatClampNeg by omega]
  exact e
theorem ltN_ok {s j : Nat} (h : isL (T (s + j))) : T (s + j) = ic (96 + ltN T s j) ∧ 1 ≤ ltN T s j ∧ ltN T s j ≤ 26 := by
  obtain ⟨m, e, h1, h2⟩ := isL_N h
  have : ltN T s j = m := by unfold ltN; rw [e, ic_clamp (by omega)]; omega
  rw [this]
  exact ⟨e, h1, h2⟩
theorem haF_ok {s : Nat} : ∀ d m, m + d ≤ 8 → (∀ j, j < m + d → isL (T (s + j))) → haF T s d (s + m) (lc (hF (ltN T s) m)) = lc (hF (ltN T s) (m + d)) := by
  intro d
  induction d with
  | zero => intro m _ _; rfl
  | succ d ih =>
    intro m hm hl
    obtain ⟨e, h1, h2⟩ := ltN_ok (hl m (by omega))
    unfold haF
    rw [if_pos (by omega), e, show ic (96 + ltN T s m) - 96 = ic (ltN T s m) by rw [show (96 : Int32) = ic 96 from rfl, ic_subN (by omega), Nat.add_sub_cancel_left], ic_lc (by omega), show (37 : Int64) = lc 37 from rfl, lc_mul, lc_add]
    have := ih (m + 1) (by omega) (fun j hj => hl j (by omega))
    rw [show s + (m + 1) = s + m + 1 by omega, show m + 1 + d = m + (d + 1) by omega] at this
    exact this
theorem enF_in {lo hi : Int32} : ∀ d k j, k ≤ j → j < enF T lo hi d k → ¬ T j < lo ∧ ¬ hi < T j := by
  intro d
  induction d with
  | zero => intro k j h1 h2; unfold enF at h2; omega
  | succ d ih =>
    intro k j h1 h2
    unfold enF at h2
    split at h2
    · rename_i c
      by_cases e : j = k
      · subst e; exact c
      · exact ih (k + 1) j (by omega) h2
    · omega
theorem p8 (m : Nat) (h : m ≤ 8) : 37 ^ m < 9223372036854775808 := by
  have : ∀ m : Fin 9, 37 ^ m.1 < 9223372036854775808 := by decide +kernel
  exact this ⟨m, by omega⟩
theorem word_iff {s e w : Nat} (hw : w < 11) (hl : ∀ j, s ≤ j → j < e → isL (T j)) (h8 : e - s ≤ 8) (hse : s ≤ e) : (hwF T s e (8 * w) 8 0 = true) ↔ haF T s (e - s) s 0 = wdV w := by
  obtain ⟨f1, f2, f3⟩ := wd_f w hw
  have hl' : ∀ j, j < e - s → isL (T (s + j)) := fun j hj => hl _ (by omega) (by omega)
  have g := haF_ok (T := T) (s := s) (e - s) 0 (by omega) (fun j hj => hl' j (by omega))
  rw [Nat.zero_add] at g
  have g' : haF T s (e - s) s 0 = lc (hF (ltN T s) (e - s)) := g
  rw [g', ← f2, hw_iff]
  constructor
  · intro h
    have hlen : e - s = wlN w := by
      apply Classical.byContradiction
      intro q
      by_cases c : e - s < wlN w
      · have a := h (e - s) (by omega) (by omega)
        rw [if_neg (by omega)] at a
        obtain ⟨b1, b2, b3⟩ := (f3 (e - s) (by omega)).1 c
        rw [b1, show (32 : Int32) = ic 32 from rfl, ic_eq (by omega) (by omega)] at a
        omega
      · have a := h (wlN w) (by omega) (by omega)
        rw [if_pos (by omega), (f3 (wlN w) (by omega)).2 (by omega)] at a
        obtain ⟨b1, b2, b3⟩ := ltN_ok (hl' (wlN w) (by omega))
        rw [b1, show (32 : Int32) = ic 32 from rfl, ic_eq (by omega) (by omega)] at a
        omega
    have hc : ∀ m, m ≤ wlN w → hF (ltN T s) m = hF (wcN w) m := by
      intro m
      induction m with
      | zero => intro _; simp only [hF]
      | succ m ih =>
        intro hm
        unfold hF
        rw [ih (by omega)]
        have a := h m (by omega) (by omega)
        rw [if_pos (by omega)] at a
        obtain ⟨b1, b2, b3⟩ := ltN_ok (hl' m (by omega))
        obtain ⟨d1, d2, d3⟩ := (f3 m (by omega)).1 (by omega)
        rw [b1, d1, ic_eq (by omega) (by omega)] at a
        omega
    rw [hlen, hc _ (Nat.le_refl _)]
  · intro h
    have l1 := Nat.lt_trans (hF_lt (c := ltN T s) (e - s) (fun j hj => (ltN_ok (hl' j hj)).2.2)) (p8 _ h8)
    have l2 := Nat.lt_trans (hF_lt (c := wcN w) (wlN w) (fun j hj => ((f3 j (by omega)).1 hj).2.2)) (p8 _ f1)
    obtain ⟨hlen, hc⟩ := hF_inj _ _ (fun j hj => (ltN_ok (hl' j hj)).2) (fun j hj => ((f3 j (by omega)).1 hj).2) (lc_inj l1 l2 h)
    intro i _ hi
    by_cases c : s + i < e
    · rw [if_pos c, ((f3 i (by omega)).1 (by omega)).1, (ltN_ok (hl' i (by omega))).1, hc i (by omega)]
    · rw [if_neg c, (f3 i (by omega)).2 (by omega)]
theorem fdF_rng {p : Nat → Bool} : ∀ d k, fdF p d k = 1 ∨ ∃ j, k ≤ j ∧ j < k + d ∧ fdF p d k = ic (129 + j) ∧ p j = true := by
  intro d
  induction d with
  | zero => intro k; exact Or.inl rfl
  | succ d ih =>
    intro k
    unfold fdF
    by_cases c : p k = true
    · rw [if_pos c]; exact Or.inr ⟨k, by omega, by omega, rfl, c⟩
    · rw [if_neg c]
      rcases ih (k + 1) with h | ⟨j, h1, h2, h3, h4⟩
      · exact Or.inl h
      · exact Or.inr ⟨j, by omega, by omega, h3, h4⟩
theorem fdF_pos {p : Nat → Bool} {w : Nat} (hp : p w = true) : ∀ d k, k ≤ w → w < k + d → ∃ j, k ≤ j ∧ j < k + d ∧ fdF p d k = ic (129 + j) ∧ p j = true := by
  intro d
  induction d with
  | zero => intro k h1 h2; omega
  | succ d ih =>
    intro k h1 h2
    unfold fdF
    by_cases c : p k = true
    · rw [if_pos c]; exact ⟨k, by omega, by omega, rfl, c⟩
    · rw [if_neg c]
      have : w ≠ k := fun e => c (e ▸ hp)
      obtain ⟨j, h1, h2, h3, h4⟩ := ih (k + 1) (by omega) (by omega)
      exact ⟨j, by omega, by omega, h3, h4⟩
/-- what a token of the class is, and one of the model -/
def tkR (kd nu so : Int32) (va : Int64) : Prop := (kd = 128 ↔ so = 2) ∧ (kd = 128 → va = nu.toInt64) ∧ (∃ m, m ≤ 9999 ∧ nu = ic m) ∧ (∀ c, isS c → ((so = 3 ∧ va = c.toInt64) ↔ kd = c)) ∧ (∀ w, w < 11 → ((so = 1 ∧ va = wdV w) ↔ kd = ic (129 + w))) ∧ (kd < 133 ∨ ∃ w, 4 ≤ w ∧ w < 11 ∧ kd = ic (129 + w)) ∧ (so = 0 ↔ kd = 0)
theorem isS_not {c : Int32} (h : isS c) : c ≠ 0 ∧ c ≠ 1 ∧ c ≠ 128 ∧ c < 133 ∧ ∀ w, w < 11 → c ≠ ic (129 + w) := by
  have : ∀ w : Fin 11, ic (129 + w.1) ≠ 40 ∧ ic (129 + w.1) ≠ 41 ∧ ic (129 + w.1) ≠ 59 ∧ ic (129 + w.1) ≠ 61 ∧ ic (129 + w.1) ≠ 60 ∧ ic (129 + w.1) ≠ 43 ∧ ic (129 + w.1) ≠ 45 := by decide +kernel
  rcases h with h | h | h | h | h | h | h <;> subst h <;> refine ⟨by decide, by decide, by decide, by decide, fun w hw => ?_⟩
  · exact fun e => (this ⟨w, hw⟩).1 e.symm
  · exact fun e => (this ⟨w, hw⟩).2.1 e.symm
  · exact fun e => (this ⟨w, hw⟩).2.2.1 e.symm
  · exact fun e => (this ⟨w, hw⟩).2.2.2.1 e.symm
  · exact fun e => (this ⟨w, hw⟩).2.2.2.2.1 e.symm
  · exact fun e => (this ⟨w, hw⟩).2.2.2.2.2.1 e.symm
  · exact fun e => (this ⟨w, hw⟩).2.2.2.2.2.2 e.symm
theorem tk_bad {va : Int64} : tkR 1 0 4 va := by
  refine ⟨by decide, fun h => absurd h (by decide), ⟨0, by omega, rfl⟩, fun c hc => ⟨fun h => absurd h.1 (by decide), fun h => absurd h.symm (isS_not hc).2.1⟩, fun w hw => ⟨fun h => absurd h.1 (by decide), fun h => ?_⟩, Or.inl (by decide), by decide⟩
  have : ∀ w : Fin 11, (1 : Int32) ≠ ic (129 + w.1) := by decide +kernel
  exact absurd h (this ⟨w, hw⟩)
theorem daF_ok {s : Nat} : ∀ d m a, m + d ≤ 4 → (∀ j, j < m + d → isD (T (s + j))) → a < 10 ^ m → ∃ b, b < 10 ^ (m + d) ∧ daF T s d (s + m) (lc a) = lc b ∧ digF T d (s + m) (ic a) = ic b := by
  intro d
  induction d with
  | zero => intro m a _ _ ha; exact ⟨a, ha, rfl, rfl⟩
  | succ d ih =>
    intro m a hm hl ha
    obtain ⟨q, e, hq⟩ := isD_N (hl m (by omega))
    have p4 : 10 ^ m ≤ 10 ^ 3 := Nat.pow_le_pow_right (by omega) (by omega)
    have h3 : 10 ^ 3 = 1000 := by decide
    obtain ⟨b, b1, b2, b3⟩ := ih (m + 1) (10 * a + q) (by omega) (fun j hj => hl j (by omega)) (by rw [Nat.pow_succ]; omega)
    refine ⟨b, by rw [show m + (d + 1) = m + 1 + d by omega]; exact b1, ?_, ?_⟩
    · unfold daF
      rw [if_pos (by omega), e, ic_lc (by omega), show (10 : Int64) = lc 10 from rfl, lc_mul, lc_add, show lc (10 * a + (48 + q)) = lc (10 * a + q) + 48 by rw [show (48 : Int64) = lc 48 from rfl, lc_add]; congr 1; omega, Int64.add_sub_cancel]
      exact b2
    · unfold digF
      rw [e, show ic a * 10 + (ic (48 + q) - 48) = ic (10 * a + q) by
        rw [show (48 : Int32) = ic 48 from rfl, ic_subN (by omega), show 48 + q - 48 = q by omega, show (10 : Int32) = ic 10 from rfl]
        unfold ic
        rw [← Int32.ofNat_mul, ← Int32.ofNat_add, Nat.mul_comm]]
      exact b3
theorem sg_iff {v : Int32} : sgF v 7 0 < 0 ↔ ¬ isS v := by
  unfold isS sgF sgF sgF sgF sgF sgF sgF sgF
  have e0 : sgC 0 = 40 := by decide
  have e1 : sgC (0 + 1) = 41 := by decide
  have e2 : sgC (0 + 1 + 1) = 60 := by decide
  have e3 : sgC (0 + 1 + 1 + 1) = 61 := by decide
  have e4 : sgC (0 + 1 + 1 + 1 + 1) = 43 := by decide
  have e5 : sgC (0 + 1 + 1 + 1 + 1 + 1) = 45 := by decide
  have e6 : sgC (0 + 1 + 1 + 1 + 1 + 1 + 1) = 59 := by decide
  rw [e0, e1, e2, e3, e4, e5, e6]
  by_cases c0 : (40 : Int32) = v
  · subst c0; decide
  by_cases c1 : (41 : Int32) = v
  · subst c1; decide
  by_cases c2 : (60 : Int32) = v
  · subst c2; decide
  by_cases c3 : (61 : Int32) = v
  · subst c3; decide
  by_cases c4 : (43 : Int32) = v
  · subst c4; decide
  by_cases c5 : (45 : Int32) = v
  · subst c5; decide
  by_cases c6 : (59 : Int32) = v
  · subst c6; decide
  rw [if_neg c0, if_neg c1, if_neg c2, if_neg c3, if_neg c4, if_neg c5, if_neg c6]
  refine ⟨fun _ h => ?_, fun _ => by decide⟩
  rcases h with h | h | h | h | h | h | h
  · exact c0 h.symm
  · exact c1 h.symm
  · exact c6 h.symm
  · exact c3 h.symm
  · exact c2 h.symm
  · exact c4 h.symm
  · exact c5 h.symm
theorem tk_ok {s : Nat} (hs : s < n) : tkR (kdT T s (eF T n s)) (nuT T s (eF T n s)) (soT T s (eF T n s)) (vaT T s (eF T n s)) := by
  obtain ⟨b1, b2⟩ := eF_b (T := T) hs
  by_cases cl : isL (T s)
  · have ee : eF T n s = enF T 97 122 (n - s) s := by unfold eF; rw [if_pos cl]
    have hl : ∀ j, s ≤ j → j < eF T n s → isL (T j) := fun j h1 h2 => enF_in (n - s) s j h1 (by rw [← ee]; exact h2)
    unfold kdT nuT soT vaT
    rw [if_pos cl, if_pos cl, if_pos cl, if_pos cl]
    unfold wkF
    by_cases c8 : 8 < eF T n s - s
    · rw [if_pos c8, if_pos c8]; exact tk_bad
    · rw [if_neg c8, if_neg c8]
      have wi := fun w hw => word_iff (T := T) (s := s) (e := eF T n s) (w := w) hw hl (by omega) (by omega)
      have n1 : ∀ j, j < 11 → ic (129 + j) ≠ 128 ∧ ic (129 + j) ≠ 0 := by
        have : ∀ j : Fin 11, ic (129 + j.1) ≠ 128 ∧ ic (129 + j.1) ≠ 0 := by decide +kernel
        exact fun j hj => this ⟨j, hj⟩
      have r := fdF_rng (p := fun w => hwF T s (eF T n s) (8 * w) 8 0) 11 0
      have nk : ∀ v : Int32, v ≠ 1 → (∀ j, j < 11 → ic (129 + j) ≠ v) → fdF (fun w => hwF T s (eF T n s) (8 * w) 8 0) 11 0 ≠ v := by
        intro v h1 h2
        rcases r with h | ⟨j, _, h3, h4, _⟩
        · rw [h]; exact fun e => h1 e.symm
        · rw [h4]; exact h2 j (by omega)
      refine ⟨⟨fun h => absurd h (nk 128 (by decide) (fun j hj => (n1 j hj).1)), fun h => absurd h (by decide)⟩, fun h => absurd h (nk 128 (by decide) (fun j hj => (n1 j hj).1)), ⟨0, by omega, rfl⟩, fun c hc => ⟨fun h => absurd h.1 (by decide), fun h => absurd h (nk c (isS_not hc).2.1 (fun j hj => ((isS_not hc).2.2.2.2 j hj).symm))⟩, fun w hw => ⟨fun h => ?_, fun h => ⟨rfl, ?_⟩⟩, ?_, ⟨fun h => absurd h (by decide), fun h => absurd h (nk 0 (by decide) (fun j hj => (n1 j hj).2))⟩⟩
      · obtain ⟨j, _, h3, h4, h5⟩ := fdF_pos (p := fun w => hwF T s (eF T n s) (8 * w) 8 0) ((wi w hw).2 h.2) 11 0 (by omega) (by omega)
        have := (wi j (by omega)).1 h5
        rw [h.2] at this
        rw [h4, wd_inj _ hw _ (by omega) this]
      · rcases r with h2 | ⟨j, _, h3, h4, h5⟩
        · rw [h2] at h
          have : ∀ w : Fin 11, (1 : Int32) ≠ ic (129 + w.1) := by decide +kernel
          exact absurd h (this ⟨w, hw⟩)
        · rw [h4, ic_eq (by omega) (by omega)] at h
          have : j = w := by omega
          subst this
          exact (wi j hw).1 h5
      · rcases r with h2 | ⟨j, _, h3, h4, h5⟩
        · rw [h2]; exact Or.inl (by decide)
        · rw [h4]
          by_cases c4 : 4 ≤ j
          · exact Or.inr ⟨j, c4, by omega, rfl⟩
          · refine Or.inl ?_
            rw [show (133 : Int32) = ic 133 from rfl, ic_lt (by omega) (by omega)]
            omega
  · by_cases cd : isD (T s)
    · have ee : eF T n s = enF T 48 57 (n - s) s := by unfold eF; rw [if_neg cl, if_pos cd]
      have hl : ∀ j, s ≤ j → j < eF T n s → isD (T j) := fun j h1 h2 => enF_in (n - s) s j h1 (by rw [← ee]; exact h2)
      unfold kdT nuT soT vaT
      rw [if_neg cl, if_neg cl, if_neg cl, if_neg cl, if_pos cd, if_pos cd, if_pos cd, if_pos cd]
      by_cases c4 : 4 < eF T n s - s
      · rw [if_pos c4, if_pos c4, if_pos c4]; exact tk_bad
      · rw [if_neg c4, if_neg c4, if_neg c4]
        obtain ⟨b, d1, d2, d3⟩ := daF_ok (T := T) (s := s) (eF T n s - s) 0 0 (by omega) (fun j hj => hl _ (by omega) (by omega)) (by decide)
        rw [Nat.zero_add] at d1
        have p4 : 10 ^ (eF T n s - s) ≤ 10 ^ 4 := Nat.pow_le_pow_right (by omega) (by omega)
        have h4 : 10 ^ 4 = 10000 := by decide
        have d2' : daF T s (eF T n s - s) s 0 = lc b := d2
        have d3' : digF T (eF T n s - s) s 0 = ic b := d3
        rw [d2', d3']
        refine ⟨by decide, fun _ => (ic_lc (by omega)).symm, ⟨b, by omega, rfl⟩, fun c hc => ⟨fun h => absurd h.1 (by decide), fun h => absurd h.symm (isS_not hc).2.2.1⟩, fun w hw => ⟨fun h => absurd h.1 (by decide), fun h => ?_⟩, Or.inl (by decide), by decide⟩
        have : ∀ w : Fin 11, (128 : Int32) ≠ ic (129 + w.1) := by decide +kernel
        exact absurd h (this ⟨w, hw⟩)
    · unfold kdT nuT soT vaT
      rw [if_neg cl, if_neg cl, if_neg cl, if_neg cl, if_neg cd, if_neg cd, if_neg cd, if_neg cd]
      by_cases cs : isS (T s)
      · rw [if_pos cs, if_neg (by rw [sg_iff]; simp [cs])]
        obtain ⟨z0, z1, z2, z3, z4⟩ := isS_not cs
        refine ⟨⟨fun h => absurd h z2, fun h => absurd h (by decide)⟩, fun h => absurd h z2, ⟨0, by omega, rfl⟩, fun c hc => ⟨fun h => i64_inj h.2, fun h => ⟨rfl, by rw [h]⟩⟩, fun w hw => ⟨fun h => absurd h.1 (by decide), fun h => absurd h (z4 w hw)⟩, Or.inl z3, ⟨fun h => absurd h (by decide), fun h => absurd h z0⟩⟩
      · rw [if_neg cs, if_pos (sg_iff.2 cs)]; exact tk_bad
end
