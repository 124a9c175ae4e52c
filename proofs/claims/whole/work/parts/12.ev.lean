/-! THE SMALL MACHINE IS SOUND -/
theorem wrap_sound {p : Program} {l : Launch} {e : Env} {R : Room} {s : State} {m : MethodId} {args : Array Value} {below : List Frame} {meth : Method} {c : Code} {Q : State → Prop} {Γ : GT} {k : Nat} {z : Nat × Nat} {pc : Nat} {ls : List Value} {h : AH} (hC : Cx Γ p s m args meth c k) {i : Instr} {k' d : Nat} {o x : Nat} {p0 p1 : Int32} {r : List Value} {h1 h2 : AH} {v : Int32} {pf : Nat} {sf rv : List Value} (hd : decode (mCode k) pc = .ok (i, 3)) (hc : wrapOf k i = some k')
    (hcat : catS r ≤ 8) (ho : o < h.2.1) (hrc : recvOK 0 k' [.ref x, .int p0, .int p1] h = true) (hrk : rk k' 0 + 1 < rk k d) (hF : rk k d ≤ R.frames) (hLo : 60 * rk k d ≤ R.locals) (hR1 : h2.1.1 - z.1 ≤ R.cells) (hR2 : h2.1.2 - z.2 ≤ R.slots) (hz0 : s.heap.size ≤ Γ.1.1 + z.1) (hrv : retV k' pf sf = some rv) (hun : h1.1 = h.1)
    (hcase : (∃ w e2, rv = [.int w] ∧ stL (h1.2.2 o) 0 w.toInt64 = some e2 ∧ o < h1.2.1 ∧ v = 0 ∧ h2 = setC h1 o e2) ∨ (rv = [thr] ∧ v = 1 ∧ h2 = ((h.1.1 + 8, h.1.2 + 64), h1.2)))
    (hev : ∀ {p : Program} {e : Env} {R : Room} {s : State} {m : MethodId} {args : Array Value} {below : List Frame} {meth : Method} {c : Code} {Q : State → Prop}, Cx Γ p s m args meth c k' → s.heap.size ≤ Γ.1.1 + h.1.1 → rk k' 0 ≤ R.frames → 60 * rk k' 0 ≤ R.locals → (∀ lsf, Wst Γ p l e R s m args below meth c Q k' h.1 pf lsf sf h1) → Wst Γ p l e R s m args below meth c Q k' h.1 0 (iniF k' [.ref x, .int p0, .int p1]) [] h)
    (kk : Wst Γ p l e R s m args below meth c Q k z (pc + 3) ls (.int v :: r) h2) : Wst Γ p l e R s m args below meth c Q k z pc ls (.ref o :: .int p1 :: .int p0 :: .ref x :: r) h := by
  sorry
theorem sub_le_of {a b c r : Nat} (h : a ≤ b) (h2 : b - c ≤ r) : a - c ≤ r := by omega
theorem okA_long {as : List Value} (h : as.all okA = true) : ∀ v ∈ as, v.category = 2 → ∃ x, v = .long x := by
  intro v hv hc
  have h1 := List.all_eq_true.mp h v hv
  cases v with
  | long x => exact ⟨x, rfl⟩
  | double x => simp [okA] at h1
  | _ => simp [Value.category] at hc
theorem rk_pos {k d : Nat} (hk : k ∈ mAll ∨ k = 149) : 1 ≤ rk k d := by
  unfold rk
  split
  · omega
  · split
    · omega
    · split
      · omega
      · rcases hk with hk | rfl
        · exact (mChk_spec hk).2.2.2.2.2.2.2.2.2.2.1
        · decide
theorem callOf_in {k k' kd : Nat} {i : Instr} (hc : callOf k i = some (kd, k')) : k' ∈ mAll := by
  have key : ∀ {idx : Nat}, cal (mC k) idx = some (kd, k') → k' ∈ mAll := by
    intro idx hcal
    obtain ⟨pq, hq⟩ := cal_ok hcal
    simp only [calChk, Bool.and_eq_true, decide_eq_true_eq] at hq
    exact hq.1
  unfold callOf at hc
  split at hc
  · split at hc
    · rename_i hcal
      split at hc
      · cases hc; exact key hcal
      · cases hc
    · cases hc
  · split at hc
    · rename_i hcal
      split at hc
      · cases hc; exact key hcal
      · cases hc
    · cases hc
  · split at hc
    · rename_i hcal
      split at hc
      · cases hc; exact key hcal
      · cases hc
    · cases hc
  · cases hc
theorem wrapOf_in {k k' : Nat} {i : Instr} (hc : wrapOf k i = some k') : k' ∈ mAll := by
  unfold wrapOf at hc
  split at hc
  · split at hc
    · cases hc; decide
    · split at hc
      · cases hc; decide
      · cases hc
  · cases hc
theorem callOf_len {k k' kd : Nat} {i : Instr} (hc : callOf k i = some (kd, k')) (n : Nat) : lenI i n = 3 := by
  unfold callOf at hc
  split at hc <;> first | rfl | cases hc
theorem wrapOf_len {k k' : Nat} {i : Instr} (hc : wrapOf k i = some k') (n : Nat) : lenI i n = 3 := by
  unfold wrapOf at hc
  split at hc <;> first | rfl | cases hc
theorem ev_sound {Γ : GT} {l : Launch} : ∀ (n k d pc : Nat) (ls st : List Value) (h : AH) (pf : Nat) (sf : List Value) (hf : AH), k ∈ mAll ∨ k = 149 → ev n k d pc ls st h = some (pf, sf, hf) →
    ∀ {p : Program} {e : Env} {R : Room} {s : State} {m : MethodId} {args : Array Value} {below : List Frame} {meth : Method} {c : Code} {Q : State → Prop} {z : Nat × Nat}, Cx Γ p s m args meth c k → s.heap.size ≤ Γ.1.1 + z.1 → hf.1.1 - z.1 ≤ R.cells → hf.1.2 - z.2 ≤ R.slots → rk k d ≤ R.frames → 60 * rk k d ≤ R.locals →
      (∀ lsf, Wst Γ p l e R s m args below meth c Q k z pf lsf sf hf) → Wst Γ p l e R s m args below meth c Q k z pc ls st h := by
  intro n
  induction n with
  | zero => intro k d pc ls st h pf sf hf hk hy; simp [ev] at hy
  | succ n ih =>
    intro k d pc ls st h pf sf hf hk hy p e R s m args below meth c Q z hC hz0 hR1 hR2 hF hLo kk
    have hpos : 1 ≤ rk k d := rk_pos hk
    unfold ev at hy
    split at hy
    · cases hy
    · rename_i i len hd
      split at hy
      · rename_i hlen
        split at hy
        · cases hy
          exact kk ls
        · split at hy
          · rename_i kd k' hc
            split at hy
            · cases hy
            · rename_i as r ha
              split at hy
              · cases hy
              · rename_i pf1 sf1 h1 hev
                split at hy
                · cases hy
                · rename_i rv hrv
                  split at hy
                  · cases hy
                  · rename_i hne
                    have hk' := callOf_in hc
                    have hu := ev_mono _ _ _ _ _ _ _ _ hev
                    have hu2 := ev_mono _ _ _ _ _ _ _ _ hy
                    have hlen3 : len = 3 := by rw [hlen]; exact callOf_len hc len
                    subst hlen3
                    refine call_sound hC hd hc ha hF hLo (sub_le_of hu2.1 hR1) (sub_le_of hu2.2 hR2) hu hz0 hrv hne ?_ (ih _ _ _ _ _ _ _ _ _ hk hy hC hz0 hR1 hR2 hF hLo kk)
                    obtain ⟨m1, m2, m3, m4, m5, m6, m7, m8, m9, m10, m11, m12⟩ := mChk_spec hk'
                    have hΓ := hC.2.2.2.2.2.2.2
                    refine Met.ofW (cc := mCode k') (maxL := mML k') (ret := mRet k') m4 rfl ?_
                    intro p e s m args below meth c s₁ B hml hv
                    obtain ⟨rfl, hH, hE, hsz⟩ := hv
                    have hC' : Cx Γ p s m (as.map (tr Γ)).toArray meth c k' := by
                      refine ⟨B.exec, B.bytes, hml, ?_, fun w hw => atoms_spec (ws := wsM k') B.pre w (List.mem_cons_of_mem _ hw), fun h2 => ?_, hE, hΓ⟩
                      · have := findClass_of_methodNamed B.named
                        rw [m5] at this
                        exact this
                      · rw [← m8 h2]
                        exact (name_of_methodNamed B.named B.method).1
                    rw [lg_entry_eq]
                    unfold cAr at ha
                    split at ha
                    · rename_i hq
                      obtain ⟨q1, q2, q3, q4, q5, q6, q7⟩ := hq
                      cases ha
                      have hW := ih _ _ _ _ _ _ _ _ _ (Or.inl hk') hev (e := e) (below := below) (R := { frames := rk k' (dep k' (st.take (mPar k')).reverse), cells := h1.1.1 - h.1.1, slots := h1.1.2 - h.1.2, locals := 60 * rk k' (dep k' (st.take (mPar k')).reverse) }) (z := h.1) hC' hsz (Nat.le_refl _) (Nat.le_refl _) (Nat.le_refl _) (Nat.le_refl _) (fun lsf => ret_sound hC' B.returns B.notSynchronized hrv hne)
                      have hW2 := hW s.heap [] _ hH va_S.rf (L_entry hΓ q6 q5 (okA_long (by rw [List.all_reverse]; exact q4))) (Nat.le_refl _) (Nat.le_refl _)
                      rw [Nat.sub_self, Nat.sub_self] at hW2
                      exact hW2
                    · cases ha
          · split at hy
            · rename_i k' hc
              have hk' := wrapOf_in hc
              have hlen3 : len = 3 := by rw [hlen]; exact wrapOf_len hc len
              subst hlen3
              split at hy
              · split at hy
                · rename_i hq
                  obtain ⟨q1, q2, q3, q4⟩ := hq
                  split at hy
                  · cases hy
                  · rename_i pf1 sf1 h1 hev
                    split at hy
                    · rename_i w hrv
                      split at hy
                      · rename_i e2 hst
                        split at hy
                        · rename_i hq5
                          have hu2 := ev_mono _ _ _ _ _ _ _ _ hy
                          exact wrap_sound hC hd hc q1 q2 q3 q4 hF hLo (sub_le_of hu2.1 hR1) (sub_le_of hu2.2 hR2) hz0 hrv hq5.2 (Or.inl ⟨w, e2, rfl, hst, hq5.1, rfl, rfl⟩) (fun hCx hs1 hf1 hl1 kf => ih _ _ _ _ _ _ _ _ _ (Or.inl hk') hev hCx hs1 (by rw [hq5.2]; omega) (by rw [hq5.2]; omega) hf1 hl1 kf) (ih _ _ _ _ _ _ _ _ _ hk hy hC hz0 hR1 hR2 hF hLo kk)
                        · cases hy
                      · cases hy
                    · rename_i rv _ hrv
                      split at hy
                      · rename_i hq5
                        obtain ⟨rfl, hq5⟩ := hq5
                        have hu2 := ev_mono _ _ _ _ _ _ _ _ hy
                        exact wrap_sound hC hd hc q1 q2 q3 q4 hF hLo (sub_le_of hu2.1 hR1) (sub_le_of hu2.2 hR2) hz0 hrv hq5 (Or.inr ⟨rfl, rfl, rfl⟩) (fun hCx hs1 hf1 hl1 kf => ih _ _ _ _ _ _ _ _ _ (Or.inl hk') hev hCx hs1 (by rw [hq5]; omega) (by rw [hq5]; omega) hf1 hl1 kf) (ih _ _ _ _ _ _ _ _ _ hk hy hC hz0 hR1 hR2 hF hLo kk)
                      · cases hy
                    · cases hy
                · cases hy
              · cases hy
            · split at hy
              · rename_i pc1 ls1 st1 h1 hs
                have hu2 := ev_mono _ _ _ _ _ _ _ _ hy
                exact sI_sound hC hd hlen hs hz0 (sub_le_of hu2.1 hR1) (sub_le_of hu2.2 hR2) (by omega) (by omega) (ih _ _ _ _ _ _ _ _ _ hk hy hC hz0 hR1 hR2 hF hLo kk)
              · cases hy
      · cases hy
