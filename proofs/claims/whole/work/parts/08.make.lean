/-! MAKING CELLS; Object.<init>, arraycopy, Math -/
section
variable {p : Program} {l : Launch} {e : Env} {R : Room} {s : State} {m : MethodId} {args : Array Value} {below : List Frame} {meth : Method} {c : Code} {Q : State → Prop} {Γ : GT} {k : Nat} {z : Nat × Nat} {pc : Nat} {ls st : List Value} {h : AH}
theorem tr_dflt {Γ : GT} (ty : FieldType) : tr Γ (defaultValue ty) = defaultValue ty := by cases ty <;> rfl
theorem s_new (hC : Cx Γ p s m args meth c k) {idx ci : Nat} (hn : newC (mC k) idx = some ci) (hsy : h.1.1 = h.2.1) (hlt : h.2.1 < 999999) (hz0 : s.heap.size ≤ Γ.1.1 + z.1) (hR1 : (newO h ci).1.1 - z.1 ≤ R.cells) (hR2 : (newO h ci).1.2 - z.2 ≤ R.slots)
    (hd : decode (mCode k) pc = .ok (.new idx, 3)) (kk : Wst Γ p l e R s m args below meth c Q k z (pc + 3) ls (.ref h.2.1 :: st) (newO h ci)) : Wst Γ p l e R s m args below meth c Q k z pc ls st h := by
  obtain ⟨hx, hb, hml, hown, hts, hin, hE, hΓ⟩ := hC
  intro H locs lsC hH hS hL hz1 hz2 T hT X
  have hsz : H.size = Γ.1.1 + h.2.1 := by
    have h1 := X.heapSize
    rw [hT] at h1
    have h2 := hH.2.1
    omega
  obtain ⟨pq, hq⟩ := new_ok hn
  simp only [newChk, Bool.and_eq_true, decide_eq_true_eq] at hq
  obtain ⟨⟨⟨hc9, hw1⟩, hw2⟩, hw3⟩ := hq
  obtain ⟨c1, c2, c3, c4⟩ := cls_ok hc9
  have hKn := hE.1.1 ci _ c1
  simp only [newO] at hR1 hR2
  refine (W.newcK hx hb hown (hts _ (isW_in hw1)) (hts _ (isW_in hw2)) (hts _ (isW_in hw3)) (g := F0 m pc lsC (st.map (tr Γ))) rfl hd (by omega) (by omega) hKn.2.1 hsz (fun H1 kC hkC e1 z1 o1 => ?_)) T hT X
  have hk : ∀ (i : Nat) (x : Nat × va_E), (wsO Γ h)[i]? = some x → H1[x.1]? = H[x.1]? := fun i x hx => o1 x.1 (by rw [← hsz]; exact (hH.1 i x hx).lt)
  have hP1 : va_P Γ.2.2.1 vwCl (wsO Γ (newO h ci)) H1 := by
    unfold newO
    rw [← ws_push]
    refine (hH.1.kept hk).app (fun i x hx => ?_)
    have hz : i < 1 := (List.getElem?_eq_some_iff.mp hx).1
    rw [show i = 0 by omega] at hx
    cases hx
    refine ⟨_, c1, (u_born (vTy ci) hts c2 hKn hkC e1 c3).to (fun j hj => ?_)⟩
    have hj' : j < vN ci := hj
    simp [vp_V, hj', tr_dflt]
  have hH1 : HRel Γ (newO h ci) H1 := by
    refine ⟨hP1, P_low (h := newO h ci) hP1 (Nat.succ_pos _), ?_, ?_⟩
    · show va_up h.2.2 h.2.1 _ 1000000 = _
      unfold va_up
      rw [if_neg (by omega)]
      exact hH.2.2.1
    · show h.2.1 + 1 < 1000000
      omega
  have hS1 : va_S (AB Γ) s.heap H1 locs := ⟨Nat.le_trans hS.1 (by omega), fun q h1 h2 => (o1 q (by have := hS.1; omega)).trans (hS.2.1 q h1 h2), hS.2.2⟩
  have K := kk H1 locs lsC hH1 hS1 hL (by simp only [newO]; omega) (by simp only [newO]; omega)
  rw [stk_ref (rb_own (by omega))] at K
  have e2 : (newO h ci).1.1 - z.1 = h.1.1 - z.1 + 1 := by simp only [newO]; omega
  have e3 : (newO h ci).1.2 - z.2 = h.1.2 - z.2 + vN ci := by simp only [newO]; omega
  rw [e2, e3] at K
  exact K
theorem s_newa (hC : Cx Γ p s m args meth c k) {t : ArrayType} {n : Int32} {e0 : AE} (hsy : h.1.1 = h.2.1) (hlt : h.2.1 < 999999) (hn : ¬ n < 0) (hle : n.toNatClampNeg ≤ 100000) (ha : arr0 t n.toNatClampNeg = some e0) (hz0 : s.heap.size ≤ Γ.1.1 + z.1) (hR1 : (newA h n.toNatClampNeg e0).1.1 - z.1 ≤ R.cells) (hR2 : (newA h n.toNatClampNeg e0).1.2 - z.2 ≤ R.slots)
    (hd : decode (mCode k) pc = .ok (.newarray t, 2)) (kk : Wst Γ p l e R s m args below meth c Q k z (pc + 2) ls (.ref h.2.1 :: st) (newA h n.toNatClampNeg e0)) : Wst Γ p l e R s m args below meth c Q k z pc ls (.int n :: st) h := by
  obtain ⟨hx, hb, hml, hown, hts, hin, hE, hΓ⟩ := hC
  intro H locs lsC hH hS hL hz1 hz2 T hT X
  have hsz : H.size = Γ.1.1 + h.2.1 := by
    have h1 := X.heapSize
    rw [hT] at h1
    have h2 := hH.2.1
    omega
  generalize hN : n.toNatClampNeg = N at *
  have hgood : (Cond.arrayClass (newarray.typeOf t)).before args s = true ∧ N * componentBytes (newarray.typeOf t) ≤ 536870912 ∧ ∀ (cA : ClassId), s.vm.findClass ("[" ++ (newarray.typeOf t).toString) = some cA → ∀ (H1 : Heap), H1[Γ.1.1 + h.2.1]? = some (arrV cA N (fun _ => defaultValue (newarray.typeOf t))) → va_at Γ.2.2.1 vwCl (Γ.1.1 + h.2.1, enE Γ e0) H1 := by
    cases t <;> first | (simp [arr0] at ha; done) | skip
    · cases ha
      refine ⟨hts _ arr_boolean, by simp only [newarray.typeOf, componentBytes]; omega, fun cA hA H1 h1 => ?_⟩
      have h2 := (hE.1.2 1 _ rfl).2
      have h3 : s.vm.findClass ("[" ++ (FieldType.boolean).toString) = some (Γ.2.2.2.1 .boolean) := h2
      have h4 : cA = Γ.2.2.2.1 .boolean := Option.some.inj (hA.symm.trans h3)
      subst h4
      exact h1
    · cases ha
      refine ⟨hts _ arr_char, by simp only [newarray.typeOf, componentBytes]; omega, fun cA hA H1 h1 => ?_⟩
      have h2 := (hE.1.2 2 _ rfl).2
      have h3 : s.vm.findClass ("[" ++ (FieldType.char).toString) = some (Γ.2.2.2.1 .char) := h2
      have h4 : cA = Γ.2.2.2.1 .char := Option.some.inj (hA.symm.trans h3)
      subst h4
      exact h1
    · cases ha
      refine ⟨hts _ arr_int, by simp only [newarray.typeOf, componentBytes]; omega, fun cA hA H1 h1 => ?_⟩
      have h2 := (hE.1.2 0 _ rfl).2
      have h3 : s.vm.findClass ("[" ++ (FieldType.int).toString) = some (Γ.2.2.2.1 .int) := h2
      have h4 : cA = Γ.2.2.2.1 .int := Option.some.inj (hA.symm.trans h3)
      subst h4
      exact h1
    · cases ha
      refine ⟨hts _ arr_long, by simp only [newarray.typeOf, componentBytes]; omega, fun cA hA H1 h1 => ?_⟩
      have h2 := (hE.1.2 3 _ rfl).2
      have h3 : s.vm.findClass ("[" ++ (FieldType.long).toString) = some (Γ.2.2.2.1 .long) := h2
      have h4 : cA = Γ.2.2.2.1 .long := Option.some.inj (hA.symm.trans h3)
      subst h4
      exact h1
  simp only [newA] at hR1 hR2
  refine (va_newaK hx hb hgood.1 (g := F0 m pc lsC ((.int n :: st).map (tr Γ))) rfl hd (n := n) (N := N) (rest := st.map (tr Γ)) rfl hn hN hgood.2.1 (by omega) (by omega) hsz (fun H1 cA e1 z1 o1 hAr hNm => ?_)) T hT X
  have hk : ∀ (i : Nat) (x : Nat × va_E), (wsO Γ h)[i]? = some x → H1[x.1]? = H[x.1]? := fun i x hx => o1 x.1 (by rw [← hsz]; exact (hH.1 i x hx).lt)
  have hP1 : va_P Γ.2.2.1 vwCl (wsO Γ (newA h N e0)) H1 := by
    unfold newA
    rw [← ws_push]
    refine (hH.1.kept hk).app (fun i x hx => ?_)
    have hz : i < 1 := (List.getElem?_eq_some_iff.mp hx).1
    rw [show i = 0 by omega] at hx
    cases hx
    exact hgood.2.2 cA hNm H1 e1
  have hH1 : HRel Γ (newA h N e0) H1 := by
    refine ⟨hP1, P_low (h := newA h N e0) hP1 (Nat.succ_pos _), ?_, ?_⟩
    · show va_up h.2.2 h.2.1 _ 1000000 = _
      unfold va_up
      rw [if_neg (by omega)]
      exact hH.2.2.1
    · show h.2.1 + 1 < 1000000
      omega
  have hS1 : va_S (AB Γ) s.heap H1 locs := ⟨Nat.le_trans hS.1 (by omega), fun q h1 h2 => (o1 q (by have := hS.1; omega)).trans (hS.2.1 q h1 h2), hS.2.2⟩
  have K := kk H1 locs lsC hH1 hS1 hL (by simp only [newA]; omega) (by simp only [newA]; omega)
  rw [stk_ref (rb_own (by omega))] at K
  have e2 : (newA h N e0).1.1 - z.1 = h.1.1 - z.1 + 1 := by simp only [newA]; omega
  have e3 : (newA h N e0).1.2 - z.2 = h.1.2 - z.2 + N := by simp only [newA]; omega
  rw [e2, e3] at K
  exact K
theorem s_oin (hC : Cx Γ p s m args meth c k) {idx a : Nat} (hn : oinC (mC k) idx = true) (ha : a < 1000000) (hcat : catS st ≤ 8) (hF : 1 ≤ R.frames) (hLo : 60 ≤ R.locals) (hd : decode (mCode k) pc = .ok (.invokespecial idx, 3)) (kk : Wst Γ p l e R s m args below meth c Q k z (pc + 3) ls st h) : Wst Γ p l e R s m args below meth c Q k z pc ls (.ref a :: st) h := by
  obtain ⟨hx, hb, hml, hown, hts, hin, hE, hΓ⟩ := hC
  intro H locs lsC hH hS hL hz1 hz2
  rw [stk_ref (rb_own ha)]
  refine W.objInit hx hb hown (hts _ (oin_ok hn)) (hts _ oin_inst) (hts _ oin_code) rfl (by rw [hml]; exact hL.1) rfl hd hF (by have := tr_catS hΓ st; show 2 * 0 + _ + 12 ≤ _; omega) ?_
  exact kk H locs lsC hH hS hL hz1 hz2
theorem cpA_ok {e0 e1 e2 : AE} {sp dp n : Int32} (h : cpA e0 e1 sp dp n = some e2) : ∃ (t : FieldType) (n0 n1 : Nat) (f g : Nat → Int32), (t = .int ∨ t = .boolean) ∧ e0 = .inl (t, n0, .inl f) ∧ e1 = .inl (t, n1, .inl g) ∧ ¬ sp < 0 ∧ ¬ dp < 0 ∧ ¬ n < 0 ∧ sp.toNatClampNeg + n.toNatClampNeg ≤ n0 ∧ dp.toNatClampNeg + n.toNatClampNeg ≤ n1 ∧ (∀ i, i < n.toNatClampNeg → fits t (.int (f (sp.toNatClampNeg + i))) = true) ∧ e2 = .inl (t, n1, .inl (va_cpy f g sp.toNatClampNeg dp.toNatClampNeg n.toNatClampNeg)) := by
  unfold cpA at h
  split at h
  · split at h
    · rename_i hc
      obtain ⟨ht, rfl, h1, h2, h3, h4, h5, h6⟩ := hc
      cases h
      exact ⟨_, _, _, _, _, ht, rfl, rfl, h1, h2, h3, h4, h5, fun i hi => List.all_eq_true.mp h6 i (List.mem_range.mpr hi), rfl⟩
    · cases h
  · cases h
theorem s_acp (hC : Cx Γ p s m args meth c k) {idx a a0 : Nat} {sp dp n : Int32} {e2 : AE} (hn : acpC (mC k) idx = true) (ha : a < h.2.1) (ha0 : a0 < h.2.1) (hcat : catS st ≤ 8) (hg : cpA (h.2.2 a0) (h.2.2 a) sp dp n = some e2) (hF : 1 ≤ R.frames) (hLo : 60 ≤ R.locals) (hd : decode (mCode k) pc = .ok (.invokestatic idx, 3)) (kk : Wst Γ p l e R s m args below meth c Q k z (pc + 3) ls st (setC h a e2)) : Wst Γ p l e R s m args below meth c Q k z pc ls (.int n :: .int dp :: .ref a :: .int sp :: .ref a0 :: st) h := by
  obtain ⟨hx, hb, hml, hown, hts, hin, hE, hΓ⟩ := hC
  intro H locs lsC hH hS hL hz1 hz2
  have hal : a < 1000000 := Nat.lt_trans ha hH.2.2.2
  have hal0 : a0 < 1000000 := Nat.lt_trans ha0 hH.2.2.2
  obtain ⟨t, n0, n1, f, g, ht, he0, he1, h1, h2, h3, h4, h5, h6, rfl⟩ := cpA_ok hg
  have hst : (Value.int n :: .int dp :: .ref a :: .int sp :: .ref a0 :: st).map (tr Γ) = .int n :: .int dp :: .ref (Γ.1.1 + a) :: .int sp :: .ref (Γ.1.1 + a0) :: st.map (tr Γ) := by
    simp only [List.map_cons, tr_int, tr_ref, rb_own hal, rb_own hal0]
  rw [hst]
  have hlo : ((st.map (tr Γ)).map fun v => v.category).sum + (nativeFrameWords "java/lang/System" "arraycopy" 5 + 11) ≤ R.locals := by
    rw [tr_catS hΓ]
    have : nativeFrameWords "java/lang/System" "arraycopy" 5 = 7 := by decide +kernel
    omega
  rcases ht with rfl | rfl
  · exact va_copyi hx hb (by rw [hml]; exact hL.1.symm) hown (hts _ (acp_ok hn)) (hts _ acp_nat) (hts _ acp_sta) (hts _ acp_ini) hE.1 hH.1 ws_D hS a0 a 0 0 (ws_inl ha0 he0) (ws_inl ha he1) rfl rfl rfl h1 h2 h3 h4 h5 h6 hF hlo hd (fun H1 locs1 hP1 _ hS1 => kk H1 locs1 lsC (H_set ha hH hP1) hS1 hL hz1 hz2)
  · exact va_copyi hx hb (by rw [hml]; exact hL.1.symm) hown (hts _ (acp_ok hn)) (hts _ acp_nat) (hts _ acp_sta) (hts _ acp_ini) hE.1 hH.1 ws_D hS a0 a 1 1 (ws_inl ha0 he0) (ws_inl ha he1) rfl rfl rfl h1 h2 h3 h4 h5 h6 hF hlo hd (fun H1 locs1 hP1 _ hS1 => kk H1 locs1 lsC (H_set ha hH hP1) hS1 hL hz1 hz2)
theorem s_mth (hC : Cx Γ p s m args meth c k) {idx q : Nat} {v : Int32} {r : List Value} (hn : mthC (mC k) idx = some q) (hv : mthV q st = some (v, r)) (hcat : catS r ≤ 8) (hF : 1 ≤ R.frames) (hLo : 60 ≤ R.locals) (hR1 : h.1.1 - z.1 ≤ R.cells) (hR2 : h.1.2 - z.2 ≤ R.slots) (hd : decode (mCode k) pc = .ok (.invokestatic idx, 3)) (kk : Wst Γ p l e R s m args below meth c Q k z (pc + 3) ls (.int v :: r) h) : Wst Γ p l e R s m args below meth c Q k z pc ls st h := by
  obtain ⟨hx, hb, hml, hown, hts, hin, hE, hΓ⟩ := hC
  intro H locs lsC hH hS hL hz1 hz2
  have hlk := mth_ok hn
  have hlo : ((r.map (tr Γ)).map fun v => v.category).sum + 13 ≤ R.locals := by
    rw [tr_catS hΓ]
    omega
  unfold mthV at hv
  unfold mthY at hlk
  split at hv
  · rename_i hq0
    rw [if_pos hq0] at hlk
    split at hv
    · cases hv
      exact va_mabs hx hb (by rw [hml]; exact hL.1.symm) hown (hts _ hlk) (hts _ mth_st0) (hts _ mth_ini) (hts _ mth_cd0) hF hlo hR1 hR2 hd (kk H locs lsC hH hS hL hz1 hz2)
    · cases hv
  · rename_i hq0
    rw [if_neg hq0] at hlk
    split at hv
    · rename_i hq1
      rw [if_pos hq1] at hlk
      split at hv
      · cases hv
        exact va_mmax hx hb (by rw [hml]; exact hL.1.symm) hown (hts _ hlk) (hts _ mth_st1) (hts _ mth_ini) (hts _ mth_cd1) hF hlo hR1 hR2 hd (kk H locs lsC hH hS hL hz1 hz2)
      · cases hv
    · rename_i hq1
      rw [if_neg hq1] at hlk
      split at hv
      · cases hv
        exact va_mmin hx hb (by rw [hml]; exact hL.1.symm) hown (hts _ hlk) (hts _ mth_st2) (hts _ mth_ini) (hts _ mth_cd2) hF hlo hR1 hR2 hd (kk H locs lsC hH hS hL hz1 hz2)
      · cases hv
end
