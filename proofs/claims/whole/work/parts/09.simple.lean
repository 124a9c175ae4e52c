/-! EVERY SIMPLE STEP OF THE SMALL MACHINE -/
section
variable {p : Program} {l : Launch} {e : Env} {R : Room} {s : State} {m : MethodId} {args : Array Value} {below : List Frame} {meth : Method} {c : Code} {Q : State → Prop} {Γ : GT} {k : Nat} {z : Nat × Nat} {pc : Nat} {ls st : List Value} {h : AH}
theorem s_icmpA (hC : Cx Γ p s m args meth c k) {cd : ClassFile.Cond} {x y : Int32} {off : Int} {pc' : Nat} {ls' st' : List Value} {h' : AH} (hbr : brO (cI cd x y) pc off ls st h = some (pc', ls', st', h')) (hd : decode (mCode k) pc = .ok (.if_icmp cd off, 3)) (kk : Wst Γ p l e R s m args below meth c Q k z pc' ls' st' h') : Wst Γ p l e R s m args below meth c Q k z pc ls (.int y :: .int x :: st) h := by
  unfold brO at hbr
  split at hbr
  · rename_i t ht
    cases cd with
    | eq =>
      refine s_icmp_eq hC ht hd (fun q => ?_) (fun q => ?_)
      · rw [if_pos (show cI .eq x y = true from decide_eq_true q)] at hbr
        cases hbr
        exact kk
      · rw [if_neg (show ¬ cI .eq x y = true from fun w => q (of_decide_eq_true w))] at hbr
        cases hbr
        exact kk
    | ne =>
      refine s_icmp_ne hC ht hd (fun q => ?_) (fun q => ?_)
      · rw [if_pos (show cI .ne x y = true from decide_eq_true q)] at hbr
        cases hbr
        exact kk
      · rw [if_neg (show ¬ cI .ne x y = true from fun w => q (of_decide_eq_true w))] at hbr
        cases hbr
        exact kk
    | lt =>
      refine s_icmp_lt hC ht hd (fun q => ?_) (fun q => ?_)
      · rw [if_pos (show cI .lt x y = true from decide_eq_true q)] at hbr
        cases hbr
        exact kk
      · rw [if_neg (show ¬ cI .lt x y = true from fun w => q (of_decide_eq_true w))] at hbr
        cases hbr
        exact kk
    | ge =>
      refine s_icmp_ge hC ht hd (fun q => ?_) (fun q => ?_)
      · rw [if_pos (show cI .ge x y = true from decide_eq_true q)] at hbr
        cases hbr
        exact kk
      · rw [if_neg (show ¬ cI .ge x y = true from fun w => q (of_decide_eq_true w))] at hbr
        cases hbr
        exact kk
    | gt =>
      refine s_icmp_gt hC ht hd (fun q => ?_) (fun q => ?_)
      · rw [if_pos (show cI .gt x y = true from decide_eq_true q)] at hbr
        cases hbr
        exact kk
      · rw [if_neg (show ¬ cI .gt x y = true from fun w => q (of_decide_eq_true w))] at hbr
        cases hbr
        exact kk
    | le =>
      refine s_icmp_le hC ht hd (fun q => ?_) (fun q => ?_)
      · rw [if_pos (show cI .le x y = true from decide_eq_true q)] at hbr
        cases hbr
        exact kk
      · rw [if_neg (show ¬ cI .le x y = true from fun w => q (of_decide_eq_true w))] at hbr
        cases hbr
        exact kk
  · cases hbr
theorem s_ifA (hC : Cx Γ p s m args meth c k) {cd : ClassFile.Cond} {x : Int32} {off : Int} {pc' : Nat} {ls' st' : List Value} {h' : AH} (hbr : brO (cI cd x 0) pc off ls st h = some (pc', ls', st', h')) (hd : decode (mCode k) pc = .ok (.ifCond cd off, 3)) (kk : Wst Γ p l e R s m args below meth c Q k z pc' ls' st' h') : Wst Γ p l e R s m args below meth c Q k z pc ls (.int x :: st) h := by
  unfold brO at hbr
  split at hbr
  · rename_i t ht
    cases cd with
    | eq =>
      refine s_if_eq hC ht hd (fun q => ?_) (fun q => ?_)
      · rw [if_pos (show cI .eq x 0 = true from decide_eq_true q)] at hbr
        cases hbr
        exact kk
      · rw [if_neg (show ¬ cI .eq x 0 = true from fun w => q (of_decide_eq_true w))] at hbr
        cases hbr
        exact kk
    | ne =>
      refine s_if_ne hC ht hd (fun q => ?_) (fun q => ?_)
      · rw [if_pos (show cI .ne x 0 = true from decide_eq_true q)] at hbr
        cases hbr
        exact kk
      · rw [if_neg (show ¬ cI .ne x 0 = true from fun w => q (of_decide_eq_true w))] at hbr
        cases hbr
        exact kk
    | lt =>
      refine s_if_lt hC ht hd (fun q => ?_) (fun q => ?_)
      · rw [if_pos (show cI .lt x 0 = true from decide_eq_true q)] at hbr
        cases hbr
        exact kk
      · rw [if_neg (show ¬ cI .lt x 0 = true from fun w => q (of_decide_eq_true w))] at hbr
        cases hbr
        exact kk
    | ge =>
      refine s_if_ge hC ht hd (fun q => ?_) (fun q => ?_)
      · rw [if_pos (show cI .ge x 0 = true from decide_eq_true q)] at hbr
        cases hbr
        exact kk
      · rw [if_neg (show ¬ cI .ge x 0 = true from fun w => q (of_decide_eq_true w))] at hbr
        cases hbr
        exact kk
    | gt =>
      refine s_if_gt hC ht hd (fun q => ?_) (fun q => ?_)
      · rw [if_pos (show cI .gt x 0 = true from decide_eq_true q)] at hbr
        cases hbr
        exact kk
      · rw [if_neg (show ¬ cI .gt x 0 = true from fun w => q (of_decide_eq_true w))] at hbr
        cases hbr
        exact kk
    | le =>
      refine s_if_le hC ht hd (fun q => ?_) (fun q => ?_)
      · rw [if_pos (show cI .le x 0 = true from decide_eq_true q)] at hbr
        cases hbr
        exact kk
      · rw [if_neg (show ¬ cI .le x 0 = true from fun w => q (of_decide_eq_true w))] at hbr
        cases hbr
        exact kk
  · cases hbr
theorem sI_sound (hC : Cx Γ p s m args meth c k) {i : Instr} {len pc' : Nat} {ls' st' : List Value} {h' : AH} (hd : decode (mCode k) pc = .ok (i, len)) (hlen : len = lenI i len) (hs : sI k i pc ls st h = some (pc', ls', st', h')) (hz0 : s.heap.size ≤ Γ.1.1 + z.1) (hR1 : h'.1.1 - z.1 ≤ R.cells) (hR2 : h'.1.2 - z.2 ≤ R.slots) (hF : 1 ≤ R.frames) (hLo : 60 ≤ R.locals) (kk : Wst Γ p l e R s m args below meth c Q k z pc' ls' st' h') : Wst Γ p l e R s m args below meth c Q k z pc ls st h := by
  unfold sI at hs
  split at hs
  · have hlen : len = 1 := hlen
    subst hlen
    cases hs
    exact s_iconst hC hd kk
  · have hlen : len = 2 := hlen
    subst hlen
    cases hs
    exact s_bipush hC hd kk
  · have hlen : len = 3 := hlen
    subst hlen
    cases hs
    exact s_sipush hC hd kk
  · have hlen : len = 1 := hlen
    subst hlen
    cases hs
    exact s_lconst hC hd kk
  · have hlen : len = 1 := hlen
    subst hlen
    obtain ⟨v, hv, e1⟩ := Option.map_eq_some_iff.mp hs
    cases e1
    exact s_iload_n hC hv hd kk
  · have hlen : len = 2 := hlen
    subst hlen
    obtain ⟨v, hv, e1⟩ := Option.map_eq_some_iff.mp hs
    cases e1
    exact s_iload hC hv hd kk
  · have hlen : len = 1 := hlen
    subst hlen
    obtain ⟨v, hv, e1⟩ := Option.map_eq_some_iff.mp hs
    cases e1
    exact s_lload_n hC hv hd kk
  · have hlen : len = 2 := hlen
    subst hlen
    obtain ⟨v, hv, e1⟩ := Option.map_eq_some_iff.mp hs
    cases e1
    exact s_lload hC hv hd kk
  · have hlen : len = 1 := hlen
    subst hlen
    obtain ⟨v, hv, e1⟩ := Option.map_eq_some_iff.mp hs
    cases e1
    exact s_aload_n hC hv hd kk
  · have hlen : len = 2 := hlen
    subst hlen
    obtain ⟨v, hv, e1⟩ := Option.map_eq_some_iff.mp hs
    cases e1
    exact s_aload hC hv hd kk
  · have hlen : len = 1 := hlen
    subst hlen
    split at hs
    · obtain ⟨v, hv, e1⟩ := Option.map_eq_some_iff.mp hs
      cases e1
      exact s_istore_n hC hv hd kk
    · cases hs
  · have hlen : len = 2 := hlen
    subst hlen
    split at hs
    · obtain ⟨v, hv, e1⟩ := Option.map_eq_some_iff.mp hs
      cases e1
      exact s_istore hC hv hd kk
    · cases hs
  · have hlen : len = 1 := hlen
    subst hlen
    split at hs
    · split at hs
      · rename_i ha
        obtain ⟨v, hv, e1⟩ := Option.map_eq_some_iff.mp hs
        cases e1
        exact s_astore_n hC ha hv hd kk
      · cases hs
    · cases hs
  · have hlen : len = 2 := hlen
    subst hlen
    split at hs
    · obtain ⟨v, hv, e1⟩ := Option.map_eq_some_iff.mp hs
      cases e1
      exact s_lstore hC hv hd kk
    · cases hs
  · have hlen : len = 3 := hlen
    subst hlen
    split at hs
    · rename_i v0 hg
      obtain ⟨v, hv, e1⟩ := Option.map_eq_some_iff.mp hs
      cases e1
      exact s_iinc hC hg hv hd kk
    · cases hs
  · have hlen : len = 1 := hlen
    subst hlen
    unfold bin at hs
    split at hs
    · cases hs
      exact s_iadd hC hd kk
    · cases hs
  · have hlen : len = 1 := hlen
    subst hlen
    unfold bin at hs
    split at hs
    · cases hs
      exact s_isub hC hd kk
    · cases hs
  · have hlen : len = 1 := hlen
    subst hlen
    unfold bin at hs
    split at hs
    · cases hs
      exact s_imul hC hd kk
    · cases hs
  · have hlen : len = 1 := hlen
    subst hlen
    unfold bin at hs
    split at hs
    · cases hs
      exact s_iand hC hd kk
    · cases hs
  · have hlen : len = 1 := hlen
    subst hlen
    unfold bin at hs
    split at hs
    · cases hs
      exact s_ishr hC hd kk
    · cases hs
  · have hlen : len = 1 := hlen
    subst hlen
    split at hs
    · split at hs
      · cases hs
      · rename_i hy
        cases hs
        exact s_idiv hC hy hd kk
    · cases hs
  · have hlen : len = 1 := hlen
    subst hlen
    split at hs
    · split at hs
      · cases hs
      · rename_i hy
        cases hs
        exact s_irem hC hy hd kk
    · cases hs
  · have hlen : len = 1 := hlen
    subst hlen
    unfold unI at hs
    split at hs
    · cases hs
      exact s_ineg hC hd kk
    · cases hs
  · have hlen : len = 1 := hlen
    subst hlen
    unfold unI at hs
    split at hs
    · cases hs
      exact s_i2b hC hd kk
    · cases hs
  · have hlen : len = 1 := hlen
    subst hlen
    unfold unI at hs
    split at hs
    · cases hs
      exact s_i2c hC hd kk
    · cases hs
  · have hlen : len = 1 := hlen
    subst hlen
    unfold binL at hs
    split at hs
    · cases hs
      exact s_ladd hC hd kk
    · cases hs
  · have hlen : len = 1 := hlen
    subst hlen
    unfold binL at hs
    split at hs
    · cases hs
      exact s_lsub hC hd kk
    · cases hs
  · have hlen : len = 1 := hlen
    subst hlen
    unfold binL at hs
    split at hs
    · cases hs
      exact s_lmul hC hd kk
    · cases hs
  · have hlen : len = 1 := hlen
    subst hlen
    unfold binL at hs
    split at hs
    · cases hs
      exact s_land hC hd kk
    · cases hs
  · have hlen : len = 1 := hlen
    subst hlen
    unfold binL at hs
    split at hs
    · cases hs
      exact s_lor hC hd kk
    · cases hs
  · have hlen : len = 1 := hlen
    subst hlen
    unfold shL at hs
    split at hs
    · cases hs
      exact s_lshl hC hd kk
    · cases hs
  · have hlen : len = 1 := hlen
    subst hlen
    unfold shL at hs
    split at hs
    · cases hs
      exact s_lshr hC hd kk
    · cases hs
  · have hlen : len = 1 := hlen
    subst hlen
    unfold shL at hs
    split at hs
    · cases hs
      exact s_lushr hC hd kk
    · cases hs
  · have hlen : len = 1 := hlen
    subst hlen
    split at hs
    · cases hs
      exact s_lcmp hC hd kk
    · cases hs
  · have hlen : len = 1 := hlen
    subst hlen
    split at hs
    · cases hs
      exact s_i2l hC hd kk
    · cases hs
  · have hlen : len = 1 := hlen
    subst hlen
    split at hs
    · cases hs
      exact s_l2i hC hd kk
    · cases hs
  · have hlen : len = 1 := hlen
    subst hlen
    split at hs
    · cases hs
      exact s_dup hC rfl hd kk
    · split at hs
      · cases hs
        exact s_dup hC rfl hd kk
      · cases hs
    · cases hs
  · have hlen : len = 1 := hlen
    subst hlen
    split at hs
    · split at hs
      · cases hs
        exact s_dup2 hC rfl rfl hd kk
      · cases hs
    · cases hs
  · have hlen : len = 1 := hlen
    subst hlen
    split at hs
    · cases hs
      exact s_pop hC rfl hd kk
    · cases hs
  · have hlen : len = 3 := hlen
    subst hlen
    split at hs
    · exact s_icmpA hC hs hd kk
    · cases hs
  · have hlen : len = 3 := hlen
    subst hlen
    split at hs
    · exact s_ifA hC hs hd kk
    · cases hs
  · have hlen : len = 3 := hlen
    subst hlen
    obtain ⟨v, hv, e1⟩ := Option.map_eq_some_iff.mp hs
    cases e1
    exact s_goto hC hv hd kk
  · split at hs
    · split at hs
      · rename_i hq
        obtain ⟨v, hv, e1⟩ := Option.map_eq_some_iff.mp hs
        cases e1
        exact s_tsOut hC hq hv hd kk
      · rename_i hq
        split at hs
        · rename_i off ho
          obtain ⟨v, hv, e1⟩ := Option.map_eq_some_iff.mp hs
          cases e1
          exact s_tsIn hC hq ho hv hd kk
        · cases hs
    · cases hs
  · split at hs
    · split at hs
      · rename_i hp
        obtain ⟨v, hv, e1⟩ := Option.map_eq_some_iff.mp hs
        cases e1
        exact s_ls hC hp hv hd kk
      · cases hs
    · cases hs
  · have hlen : len = 3 := hlen
    subst hlen
    unfold gfO at hs
    split at hs
    · split at hs
      · rename_i h10
        split at hs
        · rename_i hq
          obtain ⟨rfl, h1, h2⟩ := hq
          cases hs
          exact s_getV hC h10 h1 h2 hd kk
        · split at hs
          · rename_i hq
            obtain ⟨rfl, h1, h2⟩ := hq
            cases hs
            exact s_getCo hC h10 h1 h2 hd kk
          · cases hs
      · split at hs
        · rename_i ci j hf
          split at hs
          · rename_i ha
            obtain ⟨v, hv, e1⟩ := Option.map_eq_some_iff.mp hs
            cases e1
            exact s_getf hC hf ha hv hd kk
          · cases hs
        · cases hs
    · cases hs
  · have hlen : len = 3 := hlen
    subst hlen
    unfold pfO at hs
    split at hs
    · split at hs
      · rename_i ci j hf
        split at hs
        · rename_i hq
          obtain ⟨ha, ho, hfin⟩ := hq
          obtain ⟨v, hv, e1⟩ := Option.map_eq_some_iff.mp hs
          cases e1
          exact s_putf hC hf ha ho hfin hv hd kk
        · cases hs
      · cases hs
    · cases hs
  · have hlen : len = 3 := hlen
    subst hlen
    split at hs
    · rename_i hq
      obtain ⟨h10, rfl⟩ := hq
      cases hs
      exact s_gets1 hC h10 hd kk
    · split at hs
      · rename_i hq
        obtain ⟨h10, rfl⟩ := hq
        cases hs
        exact s_gets2 hC h10 hd kk
      · cases hs
  · have hlen : len = 2 := hlen
    subst hlen
    split at hs
    · rename_i hq
      obtain ⟨h10, rfl⟩ := hq
      cases hs
      exact s_ldcW hC h10 hd kk
    · split at hs
      · rename_i hq
        obtain ⟨h10, rfl⟩ := hq
        cases hs
        exact s_ldcS hC h10 hd kk
      · cases hs
  · have hlen : len = 3 := hlen
    subst hlen
    obtain ⟨v, hv, e1⟩ := Option.map_eq_some_iff.mp hs
    cases e1
    exact s_ldc2 hC hv hd kk
  · have hlen : len = 3 := hlen
    subst hlen
    split at hs
    · rename_i ci hn
      split at hs
      · rename_i hq
        cases hs
        exact s_new hC hn hq.1 hq.2 hz0 hR1 hR2 hd kk
      · cases hs
    · cases hs
  · have hlen : len = 2 := hlen
    subst hlen
    split at hs
    · split at hs
      · rename_i hq
        obtain ⟨v, hv, e1⟩ := Option.map_eq_some_iff.mp hs
        cases e1
        exact s_newa hC hq.1 hq.2.1 hq.2.2.1 hq.2.2.2 hv hz0 hR1 hR2 hd kk
      · cases hs
    · cases hs
  · have hlen : len = 1 := hlen
    subst hlen
    split at hs
    · split at hs
      · rename_i ha
        subst ha
        split at hs
        · rename_i L f hg
          cases hs
          exact s_alenX hC hg hd kk
        · cases hs
      · split at hs
        · rename_i hq
          cases hs
          exact s_alenB hC hq.1 hq.2 hd kk
        · cases hs
    · cases hs
  · have hlen : len = 1 := hlen
    subst hlen
    unfold ldO at hs
    split at hs
    · split at hs
      · rename_i hq
        obtain ⟨v, hv, e1⟩ := Option.map_eq_some_iff.mp hs
        cases e1
        rcases hq with ha | ⟨rfl, -⟩
        · exact s_iaload hC ha hv hd kk
        · exact s_ialoadX hC hv hd kk
      · split at hs
        · rename_i hq
          exact absurd hq.1 (by decide)
        · cases hs
    · cases hs
  · have hlen : len = 1 := hlen
    subst hlen
    unfold ldO at hs
    split at hs
    · split at hs
      · rename_i hq
        obtain ⟨v, hv, e1⟩ := Option.map_eq_some_iff.mp hs
        cases e1
        rcases hq with ha | ⟨-, q⟩
        · exact s_baload hC ha hv hd kk
        · exact absurd q (by decide)
      · split at hs
        · rename_i hq
          cases hs
          exact s_baloadB hC hq.2.1 hq.2.2.1 hq.2.2.2 hd kk
        · cases hs
    · cases hs
  · have hlen : len = 1 := hlen
    subst hlen
    unfold ldO at hs
    split at hs
    · split at hs
      · rename_i hq
        obtain ⟨v, hv, e1⟩ := Option.map_eq_some_iff.mp hs
        cases e1
        rcases hq with ha | ⟨-, q⟩
        · exact s_caload hC ha hv hd kk
        · exact absurd q (by decide)
      · split at hs
        · rename_i hq
          exact absurd hq.1 (by decide)
        · cases hs
    · cases hs
  · have hlen : len = 1 := hlen
    subst hlen
    split at hs
    · split at hs
      · rename_i ha
        obtain ⟨v, hv, e1⟩ := Option.map_eq_some_iff.mp hs
        cases e1
        exact s_laload hC ha hv hd kk
      · cases hs
    · cases hs
  · have hlen : len = 1 := hlen
    subst hlen
    unfold stO at hs
    split at hs
    · split at hs
      · rename_i ha
        obtain ⟨v, hv, e1⟩ := Option.map_eq_some_iff.mp hs
        cases e1
        exact s_iastore hC ha hv hd kk
      · cases hs
    · cases hs
  · have hlen : len = 1 := hlen
    subst hlen
    unfold stO at hs
    split at hs
    · split at hs
      · rename_i ha
        obtain ⟨v, hv, e1⟩ := Option.map_eq_some_iff.mp hs
        cases e1
        exact s_bastore hC ha hv hd kk
      · cases hs
    · cases hs
  · have hlen : len = 1 := hlen
    subst hlen
    unfold stO at hs
    split at hs
    · split at hs
      · rename_i ha
        obtain ⟨v, hv, e1⟩ := Option.map_eq_some_iff.mp hs
        cases e1
        exact s_castore hC ha hv hd kk
      · cases hs
    · cases hs
  · have hlen : len = 1 := hlen
    subst hlen
    split at hs
    · split at hs
      · rename_i ha
        obtain ⟨v, hv, e1⟩ := Option.map_eq_some_iff.mp hs
        cases e1
        exact s_lastore hC ha hv hd kk
      · cases hs
    · cases hs
  · have hlen : len = 3 := hlen
    subst hlen
    split at hs
    · split at hs
      · rename_i hq
        cases hs
        exact s_oin hC hq.1 hq.2.1 hq.2.2 hF hLo hd kk
      · cases hs
    · cases hs
  · have hlen : len = 3 := hlen
    subst hlen
    split at hs
    · rename_i hn
      split at hs
      · split at hs
        · rename_i hq
          obtain ⟨v, hv, e1⟩ := Option.map_eq_some_iff.mp hs
          cases e1
          exact s_acp hC hn hq.1 hq.2.1 hq.2.2 hv hF hLo hd kk
        · cases hs
      · cases hs
    · split at hs
      · rename_i q hn
        split at hs
        · rename_i v r hv
          split at hs
          · rename_i hcat
            cases hs
            exact s_mth hC hn hv hcat hF hLo hR1 hR2 hd kk
          · cases hs
        · cases hs
      · cases hs
  · cases hs
end
