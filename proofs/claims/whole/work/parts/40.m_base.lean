/-! THE MODEL'S WORLD: how its rows stand for what a world of the class holds -/
def mcl (a : Nat) : Nat := match a with | 2 => 105 | 3 => 107 | 4 => 108 | 5 => 106 | 6 => 113 | 7 => 113 | 8 => 113 | 11 => 113 | 12 => 113 | 13 => 113 | 15 => 109 | 16 => 110 | 17 => 111 | 18 => 112 | 19 => 113 | 20 => 113 | 21 => 113 | 22 => 113 | _ => 0
def mof (a : Nat) : Nat := match a with | 7 => 12 | 8 => 24 | 13 => 36 | 12 => 48 | 11 => 60 | 19 => 72 | 20 => 152 | 21 => 232 | 22 => 312 | _ => 0
def msz (a : Nat) : Nat := match a with | 2 => 12 | 3 => 12 | 4 => 12 | 5 => 12 | 6 => 12 | 7 => 12 | 8 => 12 | 11 => 12 | 12 => 12 | 13 => 12 | 15 => 80 | 16 => 80 | 17 => 80 | 18 => 80 | 19 => 80 | 20 => 80 | 21 => 80 | 22 => 80 | _ => 0
theorem msz_lt {a i : Nat} (h : i < msz a) : a < 23 := by
  by_cases e : a < 23
  · exact e
  · have : msz a = 0 := by
      unfold msz
      split <;> first | rfl | omega
    omega
theorem seg_apart : ∀ a, a < 23 → ∀ b, b < 23 → a ≠ b → 0 < msz a → 0 < msz b → mcl a = mcl b → mof a + msz a ≤ mof b ∨ mof b + msz b ≤ mof a := by
  have q : ∀ a : Fin 23, ∀ b : Fin 23, (decide (a.1 = b.1) || decide (msz a.1 = 0) || decide (msz b.1 = 0) || !decide (mcl a.1 = mcl b.1) || decide (mof a.1 + msz a.1 ≤ mof b.1) || decide (mof b.1 + msz b.1 ≤ mof a.1)) = true := by decide +kernel
  intro a ha b hb h1 h2 h3 h4
  have := q ⟨a, ha⟩ ⟨b, hb⟩
  simp only [Bool.or_eq_true, decide_eq_true_eq, Bool.not_eq_true', decide_eq_false_iff_not] at this
  omega
def MR (X V : Nat → Nat → Int32) : Prop := X 97 23 = V 0 5 ∧ X 97 13 = V 1 0 ∧ X 97 18 = V 14 0 ∧ ∀ a i, i < msz a → X (mcl a) (mof a + i) = V a i
def Fr (X X' : Nat → Nat → Int32) : Prop := (∀ a, a ≠ 97 → a ≠ 113 → a ≠ 129 → X' a = X a) ∧ ∀ j, j ≠ 23 → X' 97 j = X 97 j
def RR (X : Nat → Nat → Int32) : Prop := X 97 10 = X 1 0 ∧ X 97 28 = X 1 3 ∧ (∀ i, i < 10 → X 103 i = X 2 i) ∧ (∀ i, 1 ≤ i → i < 10 → X 104 i = X 3 i) ∧ (∀ i, i < 8 → X 115 i = X 7 i) ∧ (∀ i, i < 8 → X 116 i = X 8 i) ∧ (∀ i, i < 20 → X 117 i = X 4 i) ∧ (∀ i, i < 20 → X 118 i = X 5 i) ∧ (∀ i, i < 20 → X 119 i = X 6 i)
section
variable {X X' X2 V : Nat → Nat → Int32} {i k : Nat} {v : Int32}
theorem Fr_refl : Fr X X := ⟨fun _ _ _ _ => rfl, fun _ _ => rfl⟩
theorem Fr_tr (h : Fr X X') (g : Fr X' X2) : Fr X X2 := ⟨fun a a1 a2 a3 => (g.1 a a1 a2 a3).trans (h.1 a a1 a2 a3), fun j hj => (g.2 j hj).trans (h.2 j hj)⟩
theorem Fr_row : Fr X (sv X 113 i v) := ⟨fun a a1 a2 a3 => sv_a a2, fun j hj => by rw [sv_a (by decide)]⟩
theorem Fr_pile : Fr X (sv X 129 i v) := ⟨fun a a1 a2 a3 => sv_a a3, fun j hj => by rw [sv_a (by decide)]⟩
theorem Fr_now : Fr X (sv X 97 23 v) := ⟨fun a a1 a2 a3 => sv_a a1, fun j hj => sv_i hj⟩
theorem Fr_RR (h : Fr X X') (g : RR X) : RR X' := by
  obtain ⟨h1, h2⟩ := h
  unfold RR
  rw [h2 10 (by decide), h2 28 (by decide), h1 1 (by decide) (by decide) (by decide), h1 2 (by decide) (by decide) (by decide), h1 3 (by decide) (by decide) (by decide), h1 4 (by decide) (by decide) (by decide), h1 5 (by decide) (by decide) (by decide), h1 6 (by decide) (by decide) (by decide), h1 7 (by decide) (by decide) (by decide), h1 8 (by decide) (by decide) (by decide), h1 103 (by decide) (by decide) (by decide), h1 104 (by decide) (by decide) (by decide), h1 115 (by decide) (by decide) (by decide), h1 116 (by decide) (by decide) (by decide), h1 117 (by decide) (by decide) (by decide), h1 118 (by decide) (by decide) (by decide), h1 119 (by decide) (by decide) (by decide)]
  exact g
theorem MR_up {a : Nat} (h : MR X V) (hc : mcl a = 113) (hi : i < msz a) : MR (sv X 113 (mof a + i) v) (sv V a i v) := by
  obtain ⟨h1, h2, h3, h4⟩ := h
  have n0 : (0 : Nat) ≠ a := by rintro rfl; exact absurd hi (Nat.not_lt_zero _)
  have n1 : (1 : Nat) ≠ a := by rintro rfl; exact absurd hi (Nat.not_lt_zero _)
  have n14 : (14 : Nat) ≠ a := by rintro rfl; exact absurd hi (Nat.not_lt_zero _)
  refine ⟨by rw [sv_a (by decide), sv_a n0]; exact h1, by rw [sv_a (by decide), sv_a n1]; exact h2, by rw [sv_a (by decide), sv_a n14]; exact h3, fun b j hj => ?_⟩
  rw [sv_at, sv_at, ← h4 b j hj]
  by_cases e : b = a
  · subst e
    rw [hc]
    by_cases e2 : j = i
    · subst e2; simp
    · rw [if_neg (by omega), if_neg (by omega)]
  · rw [if_neg (c := b = a ∧ j = i) (fun q => e q.1)]
    by_cases e2 : mcl b = 113
    · have := seg_apart b (msz_lt hj) a (msz_lt hi) e (by omega) (by omega) (by rw [e2, hc])
      rw [if_neg (by omega)]
    · rw [if_neg (fun q => e2 q.1)]
theorem mcl_lt {b j : Nat} (h : j < msz b) : mcl b ≠ 97 ∧ mcl b ≠ 129 := by
  have q : ∀ b : Fin 23, mcl b.1 ≠ 97 ∧ mcl b.1 ≠ 129 := by decide +kernel
  exact q ⟨b, msz_lt h⟩
theorem MR_now (h : MR X V) : MR (sv X 97 23 v) (sv V 0 5 v) := by
  obtain ⟨h1, h2, h3, h4⟩ := h
  refine ⟨by rw [sv_s, sv_s], by rw [sv_i (by decide), sv_a (by decide)]; exact h2, by rw [sv_i (by decide), sv_a (by decide)]; exact h3, fun b j hj => ?_⟩
  have n0 : b ≠ 0 := by rintro rfl; exact absurd hj (Nat.not_lt_zero _)
  rw [sv_a (mcl_lt hj).1, sv_a n0]
  exact h4 b j hj
theorem MR_pile (h : MR X V) : MR (sv X 129 i v) V := by
  obtain ⟨h1, h2, h3, h4⟩ := h
  refine ⟨by rw [sv_a (by decide)]; exact h1, by rw [sv_a (by decide)]; exact h2, by rw [sv_a (by decide)]; exact h3, fun b j hj => ?_⟩
  rw [sv_a (mcl_lt hj).2]
  exact h4 b j hj
/-- cells that the model does not have -/
theorem MR_ex {V' : Nat → Nat → Int32} (h : MR X V) (g : ∀ a, a ≠ 9 → a ≠ 10 → a ≠ 23 → V' a = V a) : MR X V' := by
  obtain ⟨h1, h2, h3, h4⟩ := h
  refine ⟨by rw [g 0 (by decide) (by decide) (by decide)]; exact h1, by rw [g 1 (by decide) (by decide) (by decide)]; exact h2, by rw [g 14 (by decide) (by decide) (by decide)]; exact h3, fun b j hj => ?_⟩
  rw [g b (by rintro rfl; exact absurd hj (Nat.not_lt_zero _)) (by rintro rfl; exact absurd hj (Nat.not_lt_zero _)) (by rintro rfl; exact absurd hj (Nat.not_lt_zero _))]
  exact h4 b j hj
theorem m2 (h : MR X V) (hi : i < 12) : X 105 i = V 2 i := by have := h.2.2.2 2 i hi; rwa [show mof 2 = 0 from rfl, Nat.zero_add] at this
theorem m3 (h : MR X V) (hi : i < 12) : X 107 i = V 3 i := by have := h.2.2.2 3 i hi; rwa [show mof 3 = 0 from rfl, Nat.zero_add] at this
theorem m4 (h : MR X V) (hi : i < 12) : X 108 i = V 4 i := by have := h.2.2.2 4 i hi; rwa [show mof 4 = 0 from rfl, Nat.zero_add] at this
theorem m5 (h : MR X V) (hi : i < 12) : X 106 i = V 5 i := by have := h.2.2.2 5 i hi; rwa [show mof 5 = 0 from rfl, Nat.zero_add] at this
theorem m6 (h : MR X V) (hi : i < 12) : X 113 i = V 6 i := by have := h.2.2.2 6 i hi; rwa [show mof 6 = 0 from rfl, Nat.zero_add] at this
theorem m7 (h : MR X V) (hi : i < 12) : X 113 (12 + i) = V 7 i := h.2.2.2 7 i hi
theorem m8 (h : MR X V) (hi : i < 12) : X 113 (24 + i) = V 8 i := h.2.2.2 8 i hi
theorem m13 (h : MR X V) (hi : i < 12) : X 113 (36 + i) = V 13 i := h.2.2.2 13 i hi
theorem m12 (h : MR X V) (hi : i < 12) : X 113 (48 + i) = V 12 i := h.2.2.2 12 i hi
theorem m11 (h : MR X V) (hi : i < 12) : X 113 (60 + i) = V 11 i := h.2.2.2 11 i hi
theorem m15 (h : MR X V) (hi : i < 80) : X 109 i = V 15 i := by have := h.2.2.2 15 i hi; rwa [show mof 15 = 0 from rfl, Nat.zero_add] at this
theorem m16 (h : MR X V) (hi : i < 80) : X 110 i = V 16 i := by have := h.2.2.2 16 i hi; rwa [show mof 16 = 0 from rfl, Nat.zero_add] at this
theorem m17 (h : MR X V) (hi : i < 80) : X 111 i = V 17 i := by have := h.2.2.2 17 i hi; rwa [show mof 17 = 0 from rfl, Nat.zero_add] at this
theorem m18 (h : MR X V) (hi : i < 80) : X 112 i = V 18 i := by have := h.2.2.2 18 i hi; rwa [show mof 18 = 0 from rfl, Nat.zero_add] at this
theorem m19 (h : MR X V) (hi : i < 80) : X 113 (72 + i) = V 19 i := h.2.2.2 19 i hi
theorem m20 (h : MR X V) (hi : i < 80) : X 113 (152 + i) = V 20 i := h.2.2.2 20 i hi
theorem m21 (h : MR X V) (hi : i < 80) : X 113 (232 + i) = V 21 i := h.2.2.2 21 i hi
theorem m22 (h : MR X V) (hi : i < 80) : X 113 (312 + i) = V 22 i := h.2.2.2 22 i hi
theorem u6 (h : MR X V) (hi : i < 12) : MR (sv X 113 i v) (sv V 6 i v) := by have := MR_up (a := 6) (v := v) h rfl hi; rwa [show mof 6 = 0 from rfl, Nat.zero_add] at this
theorem u7 (h : MR X V) (hi : i < 12) : MR (sv X 113 (12 + i) v) (sv V 7 i v) := MR_up (a := 7) h rfl hi
theorem u8 (h : MR X V) (hi : i < 12) : MR (sv X 113 (24 + i) v) (sv V 8 i v) := MR_up (a := 8) h rfl hi
theorem u13 (h : MR X V) (hi : i < 12) : MR (sv X 113 (36 + i) v) (sv V 13 i v) := MR_up (a := 13) h rfl hi
theorem u12 (h : MR X V) (hi : i < 12) : MR (sv X 113 (48 + i) v) (sv V 12 i v) := MR_up (a := 12) h rfl hi
theorem u11 (h : MR X V) (hi : i < 12) : MR (sv X 113 (60 + i) v) (sv V 11 i v) := MR_up (a := 11) h rfl hi
theorem u19 (h : MR X V) (hi : i < 80) : MR (sv X 113 (72 + i) v) (sv V 19 i v) := MR_up (a := 19) h rfl hi
theorem u20 (h : MR X V) (hi : i < 80) : MR (sv X 113 (152 + i) v) (sv V 20 i v) := MR_up (a := 20) h rfl hi
theorem u21 (h : MR X V) (hi : i < 80) : MR (sv X 113 (232 + i) v) (sv V 21 i v) := MR_up (a := 21) h rfl hi
theorem u22 (h : MR X V) (hi : i < 80) : MR (sv X 113 (312 + i) v) (sv V 22 i v) := MR_up (a := 22) h rfl hi
theorem a0 : (0 : Int32) + ic k = ic k := Int32.zero_add _
theorem a12 : (12 : Int32) + ic k = ic (12 + k) := ic_add (a := 12)
theorem a24 : (24 : Int32) + ic k = ic (24 + k) := ic_add (a := 24)
theorem a36 : (36 : Int32) + ic k = ic (36 + k) := ic_add (a := 36)
theorem a48 : (48 : Int32) + ic k = ic (48 + k) := ic_add (a := 48)
theorem a60 : (60 : Int32) + ic k = ic (60 + k) := ic_add (a := 60)
theorem a72 : (72 : Int32) + ic k = ic (72 + k) := ic_add (a := 72)
theorem a152 : (152 : Int32) + ic k = ic (152 + k) := ic_add (a := 152)
theorem a232 : (232 : Int32) + ic k = ic (232 + k) := ic_add (a := 232)
theorem a312 : (312 : Int32) + ic k = ic (312 + k) := ic_add (a := 312)
end
