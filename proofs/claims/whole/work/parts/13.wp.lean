/-! WEAKEST PRECONDITIONS OVER THE SMALL MACHINE -/
theorem ev_up1 : ∀ (n k d pc : Nat) (ls st : List Value) (h : AH) (y : Nat × List Value × AH), ev n k d pc ls st h = some y → ev (n + 1) k d pc ls st h = some y := by
  intro n
  induction n with
  | zero => intro k d pc ls st h y hy; simp [ev] at hy
  | succ n ih =>
    intro k d pc ls st h y hy
    unfold ev at hy ⊢
    split at hy
    · cases hy
    · rename_i i len hd
      split at hy
      · rename_i hlen
        (try rw [hd])
        (try simp only [if_pos hlen])
        split at hy
        · rename_i hf
          (try rw [if_pos hf])
          exact hy
        · rename_i hf
          (try rw [if_neg hf])
          split at hy
          · rename_i kd k' hc
            (try rw [hc])
            (try simp only)
            split at hy
            · cases hy
            · rename_i as r ha
              (try rw [ha])
              (try simp only)
              split at hy
              · cases hy
              · rename_i pf1 sf1 h1 hev
                (try rw [ih _ _ _ _ _ _ _ hev])
                (try simp only)
                split at hy
                · cases hy
                · rename_i rv hrv
                  (try rw [hrv])
                  (try simp only)
                  split at hy
                  · cases hy
                  · rename_i hne
                    (try rw [if_neg hne])
                    exact ih _ _ _ _ _ _ _ hy
          · rename_i hc
            (try rw [hc])
            (try simp only)
            split at hy
            · rename_i k' hw
              (try rw [hw])
              (try simp only)
              split at hy
              · split at hy
                · rename_i hq
                  (try rw [if_pos hq])
                  split at hy
                  · cases hy
                  · rename_i pf1 sf1 h1 hev
                    (try rw [ih _ _ _ _ _ _ _ hev])
                    (try simp only)
                    split at hy
                    · rename_i v hrv
                      (try rw [hrv])
                      (try simp only)
                      split at hy
                      · rename_i e2 hst
                        (try rw [hst])
                        (try simp only)
                        split at hy
                        · rename_i hq5
                          (try rw [if_pos hq5])
                          exact ih _ _ _ _ _ _ _ hy
                        · cases hy
                      · cases hy
                    · rename_i rv hx hrv
                      (try rw [hrv])
                      (try simp only)
                      split at hy
                      · rename_i hq5
                        (try rw [if_pos hq5])
                        exact ih _ _ _ _ _ _ _ hy
                      · cases hy
                    · cases hy
                · cases hy
              · cases hy
            · rename_i hw
              (try rw [hw])
              (try simp only)
              split at hy
              · rename_i pc1 ls1 st1 h1 hs
                (try rw [hs])
                exact ih _ _ _ _ _ _ _ hy
              · cases hy
      · cases hy
theorem ev_up {n m k d pc : Nat} {ls st : List Value} {h : AH} {y : Nat × List Value × AH} (hy : ev n k d pc ls st h = some y) (hm : n ≤ m) : ev m k d pc ls st h = some y := by
  induction m with
  | zero =>
    have : n = 0 := by omega
    subst this
    exact hy
  | succ m ih =>
    by_cases e : n = m + 1
    · subst e; exact hy
    · exact ev_up1 _ _ _ _ _ _ _ _ (ih (by omega))
def WP (k d pc : Nat) (ls st : List Value) (h : AH) (Q : List Value → AH → Prop) : Prop := ∃ (n pf : Nat) (sf : List Value) (hf : AH) (rv : List Value), ev n k d pc ls st h = some (pf, sf, hf) ∧ retV k pf sf = some rv ∧ Q rv hf
def Call (k : Nat) (as : List Value) (h : AH) (Q : List Value → AH → Prop) : Prop := WP k (dep k as) 0 (iniF k as) [] h Q
section
variable {k d pc : Nat} {ls st : List Value} {h : AH} {Q : List Value → AH → Prop} {i : Instr} {len : Nat}
theorem ev_simple (hd : decode (mCode k) pc = .ok (i, len)) (hl : len = lenI i len) (hf : isFin k i = false) (hc : callOf k i = none) (hw : wrapOf k i = none) (n : Nat) : ev (n + 1) k d pc ls st h = (match sI k i pc ls st h with | some (pc', ls', st', h') => ev n k d pc' ls' st' h' | none => none) := by
  rw [ev, hd]
  simp only [if_pos hl, hf, hc, hw, Bool.false_eq_true, if_false]
  cases sI k i pc ls st h with
  | none => rfl
  | some y => rfl
theorem WP_sI (hd : decode (mCode k) pc = .ok (i, len)) (hl : len = lenI i len) (hf : isFin k i = false) (hc : callOf k i = none) (hw : wrapOf k i = none) : WP k d pc ls st h Q ↔ ∃ y : AN, sI k i pc ls st h = some y ∧ WP k d y.1 y.2.1 y.2.2.1 y.2.2.2 Q := by
  constructor
  · rintro ⟨n, pf, sf, hf', rv, h1, h2, h3⟩
    cases n with
    | zero => simp [ev] at h1
    | succ n =>
      rw [ev_simple hd hl hf hc hw] at h1
      split at h1
      · rename_i a b c e hs
        exact ⟨_, hs, n, pf, sf, hf', rv, h1, h2, h3⟩
      · cases h1
  · rintro ⟨⟨a, b, c, e⟩, hs, n, pf, sf, hf', rv, h1, h2, h3⟩
    refine ⟨n + 1, pf, sf, hf', rv, ?_, h2, h3⟩
    rw [ev_simple hd hl hf hc hw, hs]
    exact h1
theorem WP_to (hd : decode (mCode k) pc = .ok (i, len)) (hl : len = lenI i len) (hf : isFin k i = false) (hc : callOf k i = none) (hw : wrapOf k i = none) {y : AN} (hs : sI k i pc ls st h = some y) : WP k d pc ls st h Q ↔ WP k d y.1 y.2.1 y.2.2.1 y.2.2.2 Q := by
  rw [WP_sI hd hl hf hc hw, hs]
  exact ⟨fun ⟨z, e, w⟩ => (by cases e; exact w), fun w => ⟨y, rfl, w⟩⟩
theorem WP_if {c : Prop} [Decidable c] (hd : decode (mCode k) pc = .ok (i, len)) (hl : len = lenI i len) (hf : isFin k i = false) (hc : callOf k i = none) (hw : wrapOf k i = none) {y : AN} (ht : c → sI k i pc ls st h = some y) (hn : ¬ c → sI k i pc ls st h = none) : WP k d pc ls st h Q ↔ c ∧ WP k d y.1 y.2.1 y.2.2.1 y.2.2.2 Q := by
  by_cases e : c
  · rw [WP_to hd hl hf hc hw (ht e)]
    exact ⟨fun w => ⟨e, w⟩, fun w => w.2⟩
  · rw [WP_sI hd hl hf hc hw, hn e]
    exact ⟨fun ⟨z, q, _⟩ => (by cases q), fun w => absurd w.1 e⟩
theorem WP_ite {c : Prop} [Decidable c] (hd : decode (mCode k) pc = .ok (i, len)) (hl : len = lenI i len) (hf : isFin k i = false) (hc : callOf k i = none) (hw : wrapOf k i = none) {y z : AN} (ht : c → sI k i pc ls st h = some y) (hn : ¬ c → sI k i pc ls st h = some z) : WP k d pc ls st h Q ↔ if c then WP k d y.1 y.2.1 y.2.2.1 y.2.2.2 Q else WP k d z.1 z.2.1 z.2.2.1 z.2.2.2 Q := by
  by_cases e : c
  · rw [if_pos e, WP_to hd hl hf hc hw (ht e)]
  · rw [if_neg e, WP_to hd hl hf hc hw (hn e)]
theorem WP_fin (hd : decode (mCode k) pc = .ok (i, len)) (hl : len = lenI i len) (hf : isFin k i = true) : WP k d pc ls st h Q ↔ ∃ rv, retV k pc st = some rv ∧ Q rv h := by
  have e : ∀ n, ev (n + 1) k d pc ls st h = some (pc, st, h) := by
    intro n
    rw [ev, hd]
    simp only [if_pos hl, hf, if_true]
  constructor
  · rintro ⟨n, pf, sf, hf', rv, h1, h2, h3⟩
    cases n with
    | zero => simp [ev] at h1
    | succ n =>
      rw [e n] at h1
      cases h1
      exact ⟨rv, h2, h3⟩
  · rintro ⟨rv, h2, h3⟩
    exact ⟨1, pc, st, h, rv, e 0, h2, h3⟩
theorem WP_call {kd k' : Nat} {as r : List Value} (hd : decode (mCode k) pc = .ok (i, len)) (hl : len = lenI i len) (hf : isFin k i = false) (hc : callOf k i = some (kd, k')) (ha : cAr k d kd k' st h = some (as, r)) : WP k d pc ls st h Q ↔ Call k' as h (fun rv h' => rv ≠ [thr] ∧ WP k d (pc + 3) ls (rv ++ r) h' Q) := by
  have e : ∀ n, ev (n + 1) k d pc ls st h = (match ev n k' (dep k' as) 0 (iniF k' as) [] h with
            | none => none
            | some (pf, sf, h') => (match retV k' pf sf with
              | none => none
              | some rv => if rv = [thr] then none else ev n k d (pc + 3) ls (rv ++ r) h')) := by
    intro n
    rw [ev, hd]
    simp only [if_pos hl, hf, hc, ha, Bool.false_eq_true, if_false]
    cases ev n k' (dep k' as) 0 (iniF k' as) [] h with
    | none => rfl
    | some y =>
      simp only
      cases retV k' y.1 y.2.1 with
      | none => rfl
      | some rv => rfl
  constructor
  · rintro ⟨n, pf, sf, hf', rv, h1, h2, h3⟩
    cases n with
    | zero => simp [ev] at h1
    | succ n =>
      rw [e n] at h1
      split at h1
      · cases h1
      · rename_i pf1 sf1 h1' hev
        split at h1
        · cases h1
        · rename_i rv1 hrv
          split at h1
          · cases h1
          · rename_i hne
            exact ⟨n, pf1, sf1, h1', rv1, hev, hrv, hne, n, pf, sf, hf', rv, h1, h2, h3⟩
  · rintro ⟨n, pf1, sf1, h1', rv1, hev, hrv, hne, m, pf, sf, hf', rv, h1, h2, h3⟩
    refine ⟨max n m + 1, pf, sf, hf', rv, ?_, h2, h3⟩
    rw [e, ev_up hev (Nat.le_max_left n m)]
    simp only [hrv, if_neg hne]
    exact ev_up h1 (Nat.le_max_right n m)
theorem WP_mono {Q' : List Value → AH → Prop} (hq : ∀ rv h', Q rv h' → Q' rv h') (hw : WP k d pc ls st h Q) : WP k d pc ls st h Q' := by
  obtain ⟨n, pf, sf, hf', rv, h1, h2, h3⟩ := hw
  exact ⟨n, pf, sf, hf', rv, h1, h2, hq _ _ h3⟩
end
