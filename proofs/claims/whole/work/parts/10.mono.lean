/-! WHAT IS USED NEVER SHRINKS -/
def leU (h h' : AH) : Prop := h.1.1 ≤ h'.1.1 ∧ h.1.2 ≤ h'.1.2
theorem leU_rf (h : AH) : leU h h := ⟨Nat.le_refl _, Nat.le_refl _⟩
theorem leU_tr {a b c : AH} (h1 : leU a b) (h2 : leU b c) : leU a c := ⟨Nat.le_trans h1.1 h2.1, Nat.le_trans h1.2 h2.2⟩
theorem leU_map {α : Type} {x : Option α} {f : α → AN} {y : AN} {h : AH} (hf : ∀ a, leU h (f a).2.2.2) (hs : x.map f = some y) : leU h y.2.2.2 := by
  obtain ⟨v, hv, e1⟩ := Option.map_eq_some_iff.mp hs
  rw [← e1]
  exact hf v
theorem leU_br {b : Bool} {pc : Nat} {off : Int} {ls st : List Value} {h : AH} {y : AN} (hs : brO b pc off ls st h = some y) : leU h y.2.2.2 := by
  unfold brO at hs
  split at hs
  · split at hs
    · cases hs; exact leU_rf h
    · cases hs; exact leU_rf h
  · cases hs
theorem sI_mono {k : Nat} {i : Instr} {pc : Nat} {ls st : List Value} {h : AH} {y : AN} (hs : sI k i pc ls st h = some y) : leU h y.2.2.2 := by
  unfold sI at hs
  split at hs
  all_goals (try unfold bin at hs) 
  all_goals (try unfold binL at hs)
  all_goals (try unfold shL at hs)
  all_goals (try unfold unI at hs)
  all_goals (try unfold gfO at hs)
  all_goals (try unfold pfO at hs)
  all_goals (try unfold ldO at hs)
  all_goals (try unfold stO at hs)
  all_goals (try (exact leU_map (fun _ => leU_rf h) hs))
  all_goals (try (cases hs; exact leU_rf h))
  all_goals (try split at hs)
  all_goals (try (exact leU_map (fun _ => leU_rf h) hs))
  all_goals (try (exact leU_br hs))
  all_goals (try (cases hs; exact leU_rf h))
  all_goals (try (cases hs; done))
  all_goals (try split at hs)
  all_goals (try (exact leU_map (fun _ => leU_rf h) hs))
  all_goals (try (exact leU_map (fun _ => ⟨Nat.le_succ _, Nat.le_add_right _ _⟩) hs))
  all_goals (try (cases hs; exact leU_rf h))
  all_goals (try (cases hs; exact ⟨Nat.le_succ _, Nat.le_add_right _ _⟩))
  all_goals (try (cases hs; done))
  all_goals (try split at hs)
  all_goals (try (exact leU_map (fun _ => leU_rf h) hs))
  all_goals (try (cases hs; exact leU_rf h))
  all_goals (try (cases hs; done))
  all_goals (try split at hs)
  all_goals (try (exact leU_map (fun _ => leU_rf h) hs))
  all_goals (try (cases hs; exact leU_rf h))
  all_goals (try (cases hs; done))
theorem ev_mono : ∀ (n k d pc : Nat) (ls st : List Value) (h : AH) (y : Nat × List Value × AH), ev n k d pc ls st h = some y → leU h y.2.2 := by
  intro n
  induction n with
  | zero => intro k d pc ls st h y hy; simp [ev] at hy
  | succ n ih =>
    intro k d pc ls st h y hy
    unfold ev at hy
    split at hy
    · cases hy
    · split at hy
      · split at hy
        · cases hy
          exact leU_rf h
        · split at hy
          · split at hy
            · cases hy
            · split at hy
              · cases hy
              · rename_i h1
                split at hy
                · cases hy
                · split at hy
                  · cases hy
                  · exact leU_tr (ih _ _ _ _ _ _ _ h1) (ih _ _ _ _ _ _ _ hy)
          · split at hy
            · split at hy
              · split at hy
                · split at hy
                  · cases hy
                  · rename_i h1
                    split at hy
                    · split at hy
                      · split at hy
                        · have q := ih _ _ _ _ _ _ _ hy
                          have q1 := ih _ _ _ _ _ _ _ h1
                          exact ⟨Nat.le_trans q1.1 q.1, Nat.le_trans q1.2 q.2⟩
                        · cases hy
                      · cases hy
                    · split at hy
                      · exact leU_tr ⟨Nat.le_add_right _ _, Nat.le_add_right _ _⟩ (ih _ _ _ _ _ _ _ hy)
                      · cases hy
                    · cases hy
                · cases hy
              · cases hy
            · split at hy
              · rename_i h1
                exact leU_tr (sI_mono h1) (ih _ _ _ _ _ _ _ hy)
              · cases hy
      · cases hy
