/-! INSTRUCTIONS THAT READ OR CHANGE THE HEAP -/
theorem okV_tr {Γ : GT} {ty : FieldType} {v : Value} (h : okV ty v = true) : narrow ty (tr Γ v) = tr Γ v ∧ fits ty (tr Γ v) = true := by
  simp only [okV, Bool.and_eq_true, decide_eq_true_eq] at h
  obtain ⟨⟨h1, h2⟩, h3⟩ := h
  cases v with
  | int x => exact ⟨h3, h2⟩
  | ref a =>
    have ha : a < 1000000 := by simpa using h1
    rw [tr_ref, rb_own ha]
    refine ⟨by cases ty <;> rfl, ?_⟩
    cases ty <;> first | exact h2 | (simp [fits] at h2 ⊢)
  | _ => simp at h1
theorem gF_ok {e : AE} {ci j : Nat} {v : Value} (h : gF e ci j = some v) : ∃ fs, e = .inr (ci, fs) ∧ fs[j]? = some v := by
  unfold gF at h
  split at h
  · rename_i c fs
    split at h
    · rename_i hc
      subst hc
      exact ⟨fs, rfl, h⟩
    · cases h
  · cases h
theorem pF_ok {e e2 : AE} {ci j : Nat} {v : Value} (h : pF e ci j v = some e2) : ∃ fs, e = .inr (ci, fs) ∧ j < fs.length ∧ e2 = .inr (ci, fs.set j v) := by
  unfold pF at h
  split at h
  · rename_i c fs
    split at h
    · rename_i hc
      obtain ⟨rfl, hl⟩ := hc
      cases h
      exact ⟨fs, rfl, hl, rfl⟩
    · cases h
  · cases h
theorem ldI_ok {e : AE} {ty : FieldType} {j : Int32} {v : Value} (h : ldI e ty j = some v) : ∃ (n : Nat) (f : Nat → Int32), e = .inl (ty, n, .inl f) ∧ vp_in j n ∧ v = .int (f j.toNatClampNeg) := by
  unfold ldI at h
  split at h
  · rename_i t n f
    split at h
    · rename_i hc
      obtain ⟨rfl, hi⟩ := hc
      cases h
      exact ⟨n, f, rfl, inB_ok.mp hi, rfl⟩
    · cases h
  · cases h
theorem ldL_ok {e : AE} {j : Int32} {v : Value} (h : ldL e j = some v) : ∃ (n : Nat) (f : Nat → Int64), e = .inl (.long, n, .inr (.inl f)) ∧ vp_in j n ∧ v = .long (f j.toNatClampNeg) := by
  unfold ldL at h
  split at h
  · rename_i t n f
    split at h
    · rename_i hc
      obtain ⟨rfl, hi⟩ := hc
      cases h
      exact ⟨n, f, rfl, inB_ok.mp hi, rfl⟩
    · cases h
  · cases h
theorem stI_ok {e e2 : AE} {ty : FieldType} {j x : Int32} (h : stI e ty j x = some e2) : ∃ (n : Nat) (f : Nat → Int32), e = .inl (ty, n, .inl f) ∧ vp_in j n ∧ e2 = .inl (ty, n, .inl (upd f j.toNatClampNeg (vp_nar ty x))) := by
  unfold stI at h
  split at h
  · rename_i t n f
    split at h
    · rename_i hc
      obtain ⟨rfl, hi⟩ := hc
      cases h
      exact ⟨n, f, rfl, inB_ok.mp hi, rfl⟩
    · cases h
  · cases h
theorem stL_ok {e e2 : AE} {j : Int32} {x : Int64} (h : stL e j x = some e2) : ∃ (n : Nat) (f : Nat → Int64), e = .inl (.long, n, .inr (.inl f)) ∧ vp_in j n ∧ e2 = .inl (.long, n, .inr (.inl (vp_updL f j.toNatClampNeg x))) := by
  unfold stL at h
  split at h
  · rename_i t n f
    split at h
    · rename_i hc
      obtain ⟨rfl, hi⟩ := hc
      cases h
      exact ⟨n, f, rfl, inB_ok.mp hi, rfl⟩
    · cases h
  · cases h
theorem ws_inr {Γ : GT} {h : AH} {a ci : Nat} {fs : List Value} (ha : a < h.2.1) (he : h.2.2 a = .inr (ci, fs)) : (wsO Γ h)[a]? = some (Γ.1.1 + a, .inr (ci, fs.map (tr Γ))) := by
  rw [ws_at ha, he]; rfl
theorem ws_inl {Γ : GT} {h : AH} {a : Nat} {t : FieldType} {x : vp_A} (ha : a < h.2.1) (he : h.2.2 a = .inl (t, x)) : (wsO Γ h)[a]? = some (Γ.1.1 + a, .inl (Γ.2.2.2.1 t, x)) := by
  rw [ws_at ha, he]; rfl
section
variable {p : Program} {l : Launch} {e : Env} {R : Room} {s : State} {m : MethodId} {args : Array Value} {below : List Frame} {meth : Method} {c : Code} {Q : State → Prop} {Γ : GT} {k : Nat} {z : Nat × Nat} {pc : Nat} {ls st : List Value} {h : AH}
theorem s_getf (hC : Cx Γ p s m args meth c k) {idx ci j a : Nat} {v : Value} (hf : fld (mC k) idx = some (ci, j)) (ha : a < h.2.1) (hg : gF (h.2.2 a) ci j = some v) (hd : decode (mCode k) pc = .ok (.getfield idx, 3)) (kk : Wst Γ p l e R s m args below meth c Q k z (pc + 3) ls (v :: st) h) : Wst Γ p l e R s m args below meth c Q k z pc ls (.ref a :: st) h := by
  obtain ⟨hx, hb, hml, hown, hts, hin, hE, hΓ⟩ := hC
  intro H locs lsC hH hS hL hz1 hz2
  obtain ⟨pq, hq⟩ := fld_ok hf
  simp only [fldChk, Bool.and_eq_true, decide_eq_true_eq] at hq
  obtain ⟨⟨⟨hc9, hj⟩, hw⟩, hT1⟩ := hq
  obtain ⟨c1, c2, c3, c4⟩ := cls_ok hc9
  have hal : a < 1000000 := Nat.lt_trans ha hH.2.2.2
  obtain ⟨fs, he, hv⟩ := gF_ok hg
  rw [stk_ref (rb_own hal)]
  exact va_get (D := Γ.2.2.1) (ci := ci) (v := tr Γ v) (C := clsN ci) (T := vT ci) (N := vN ci) hx hb hts c2 hown hE.1 hH.1 a (ws_inr ha he) c1 j hj (hts _ (isW_in hw)) (fun _ h9 => h9) (by rw [List.getElem?_map, hv]; rfl) hd (kk H locs lsC hH hS hL hz1 hz2)
theorem s_putf (hC : Cx Γ p s m args meth c k) {idx ci j a : Nat} {v : Value} {e2 : AE} (hf : fld (mC k) idx = some (ci, j)) (ha : a < h.2.1) (ho : okV (vTy ci j) v = true) (hfin : (vT ci j).2.2.2 = false ∨ (mKd k = 2 ∧ mC k = ci)) (hg : pF (h.2.2 a) ci j v = some e2) (hd : decode (mCode k) pc = .ok (.putfield idx, 3)) (kk : Wst Γ p l e R s m args below meth c Q k z (pc + 3) ls (st) (setC h a e2)) : Wst Γ p l e R s m args below meth c Q k z pc ls (v :: .ref a :: st) h := by
  obtain ⟨hx, hb, hml, hown, hts, hin, hE, hΓ⟩ := hC
  intro H locs lsC hH hS hL hz1 hz2
  obtain ⟨pq, hq⟩ := fld_ok hf
  simp only [fldChk, Bool.and_eq_true, decide_eq_true_eq] at hq
  obtain ⟨⟨⟨hc9, hj⟩, hw⟩, hT1⟩ := hq
  obtain ⟨c1, c2, c3, c4⟩ := cls_ok hc9
  have hal : a < 1000000 := Nat.lt_trans ha hH.2.2.2
  obtain ⟨fs, he, hl, rfl⟩ := pF_ok hg
  obtain ⟨o1, o2⟩ := okV_tr (Γ := Γ) ho
  rw [List.map_cons, stk_ref (rb_own hal)]
  have eset : (Γ.1.1 + a, (.inr (ci, (fs.map (tr Γ)).set j (tr Γ v)) : va_E)) = (Γ.1.1 + a, enE Γ (.inr (ci, fs.set j v))) := by
    simp [enE, List.map_set]
  by_cases hfl : (vT ci j).2.2.2 = false
  · refine va_put (D := Γ.2.2.1) (ci := ci) (v := tr Γ v) (ty := vTy ci j) (C := clsN ci) (T := vT ci) (N := vN ci) hx hb hts c2 (vTy ci) c3 c4 hown hE.1 hH.1 ws_D hS a (ws_inr ha he) c1 j hj (hts _ (isW_in hw)) (fun _ h9 => h9) hfl (c3 j hj) o1 o2 (by rw [List.length_map]; exact hl) hd (fun H1 locs1 hP1 _ hS1 => ?_)
    rw [eset] at hP1
    exact kk H1 locs1 lsC (H_set ha hH hP1) hS1 hL hz1 hz2
  · have hq2 : mKd k = 2 ∧ mC k = ci := hfin.resolve_left hfl
    have hft : (vT ci j).2.2.2 = true := by simpa using hfl
    refine va_putF (D := Γ.2.2.1) (ci := ci) (v := tr Γ v) (ty := vTy ci j) (C := clsN ci) (T := vT ci) (N := vN ci) hx hb hts c2 (vTy ci) c3 c4 hown hE.1 hH.1 ws_D hS a (ws_inr ha he) c1 j hj (hts _ (isW_in hw)) (fun _ h9 => h9) hft (hin hq2.1) (by rw [hT1, hq2.2]) (c3 j hj) o1 o2 (by rw [List.length_map]; exact hl) hd (fun H1 locs1 hP1 _ hS1 => ?_)
    rw [eset] at hP1
    exact kk H1 locs1 lsC (H_set ha hH hP1) hS1 hL hz1 hz2
theorem s_iaload (hC : Cx Γ p s m args meth c k) {a : Nat} {j : Int32} {v : Value} (ha : a < h.2.1) (hg : ldI (h.2.2 a) .int j = some v) (hd : decode (mCode k) pc = .ok (.iaload, 1)) (kk : Wst Γ p l e R s m args below meth c Q k z (pc + 1) ls (v :: st) h) : Wst Γ p l e R s m args below meth c Q k z pc ls (.int j :: .ref a :: st) h := by
  obtain ⟨hx, hb, hml, hown, hts, hin, hE, hΓ⟩ := hC
  intro H locs lsC hH hS hL hz1 hz2
  have hal : a < 1000000 := Nat.lt_trans ha hH.2.2.2
  obtain ⟨n, f, he, hi, rfl⟩ := ldI_ok hg
  rw [List.map_cons, stk_ref (rb_own hal)]
  exact va_iald hx hb hE.1 hH.1 a 0 (ws_inl ha he) rfl hi hd (kk H locs lsC hH hS hL hz1 hz2)
theorem s_baload (hC : Cx Γ p s m args meth c k) {a : Nat} {j : Int32} {v : Value} (ha : a < h.2.1) (hg : ldI (h.2.2 a) .boolean j = some v) (hd : decode (mCode k) pc = .ok (.baload, 1)) (kk : Wst Γ p l e R s m args below meth c Q k z (pc + 1) ls (v :: st) h) : Wst Γ p l e R s m args below meth c Q k z pc ls (.int j :: .ref a :: st) h := by
  obtain ⟨hx, hb, hml, hown, hts, hin, hE, hΓ⟩ := hC
  intro H locs lsC hH hS hL hz1 hz2
  have hal : a < 1000000 := Nat.lt_trans ha hH.2.2.2
  obtain ⟨n, f, he, hi, rfl⟩ := ldI_ok hg
  rw [List.map_cons, stk_ref (rb_own hal)]
  exact va_zald hx hb hE.1 hH.1 a 1 (ws_inl ha he) rfl hi hd (kk H locs lsC hH hS hL hz1 hz2)
theorem s_caload (hC : Cx Γ p s m args meth c k) {a : Nat} {j : Int32} {v : Value} (ha : a < h.2.1) (hg : ldI (h.2.2 a) .char j = some v) (hd : decode (mCode k) pc = .ok (.caload, 1)) (kk : Wst Γ p l e R s m args below meth c Q k z (pc + 1) ls (v :: st) h) : Wst Γ p l e R s m args below meth c Q k z pc ls (.int j :: .ref a :: st) h := by
  obtain ⟨hx, hb, hml, hown, hts, hin, hE, hΓ⟩ := hC
  intro H locs lsC hH hS hL hz1 hz2
  have hal : a < 1000000 := Nat.lt_trans ha hH.2.2.2
  obtain ⟨n, f, he, hi, rfl⟩ := ldI_ok hg
  rw [List.map_cons, stk_ref (rb_own hal)]
  exact va_cald hx hb hE.1 hH.1 a 2 (ws_inl ha he) rfl hi hd (kk H locs lsC hH hS hL hz1 hz2)
theorem s_laload (hC : Cx Γ p s m args meth c k) {a : Nat} {j : Int32} {v : Value} (ha : a < h.2.1) (hg : ldL (h.2.2 a) j = some v) (hd : decode (mCode k) pc = .ok (.laload, 1)) (kk : Wst Γ p l e R s m args below meth c Q k z (pc + 1) ls (v :: st) h) : Wst Γ p l e R s m args below meth c Q k z pc ls (.int j :: .ref a :: st) h := by
  obtain ⟨hx, hb, hml, hown, hts, hin, hE, hΓ⟩ := hC
  intro H locs lsC hH hS hL hz1 hz2
  have hal : a < 1000000 := Nat.lt_trans ha hH.2.2.2
  obtain ⟨n, f, he, hi, rfl⟩ := ldL_ok hg
  rw [List.map_cons, stk_ref (rb_own hal)]
  exact va_lald hx hb hE.1 hH.1 a 3 (ws_inl ha he) rfl hi hd (kk H locs lsC hH hS hL hz1 hz2)
theorem s_iastore (hC : Cx Γ p s m args meth c k) {a : Nat} {j x : Int32} {e2 : AE} (ha : a < h.2.1) (hg : stI (h.2.2 a) .int j x = some e2) (hd : decode (mCode k) pc = .ok (.iastore, 1)) (kk : Wst Γ p l e R s m args below meth c Q k z (pc + 1) ls (st) (setC h a e2)) : Wst Γ p l e R s m args below meth c Q k z pc ls (.int x :: .int j :: .ref a :: st) h := by
  obtain ⟨hx, hb, hml, hown, hts, hin, hE, hΓ⟩ := hC
  intro H locs lsC hH hS hL hz1 hz2
  have hal : a < 1000000 := Nat.lt_trans ha hH.2.2.2
  obtain ⟨n, f, he, hi, rfl⟩ := stI_ok hg
  rw [List.map_cons, List.map_cons, stk_ref (rb_own hal)]
  exact va_iast hx hb hE.1 hH.1 ws_D hS a 0 (ws_inl ha he) rfl hi hd (fun H1 locs1 hP1 _ hS1 => kk H1 locs1 lsC (H_set ha hH hP1) hS1 hL hz1 hz2)
theorem s_bastore (hC : Cx Γ p s m args meth c k) {a : Nat} {j x : Int32} {e2 : AE} (ha : a < h.2.1) (hg : stI (h.2.2 a) .boolean j x = some e2) (hd : decode (mCode k) pc = .ok (.bastore, 1)) (kk : Wst Γ p l e R s m args below meth c Q k z (pc + 1) ls (st) (setC h a e2)) : Wst Γ p l e R s m args below meth c Q k z pc ls (.int x :: .int j :: .ref a :: st) h := by
  obtain ⟨hx, hb, hml, hown, hts, hin, hE, hΓ⟩ := hC
  intro H locs lsC hH hS hL hz1 hz2
  have hal : a < 1000000 := Nat.lt_trans ha hH.2.2.2
  obtain ⟨n, f, he, hi, rfl⟩ := stI_ok hg
  rw [List.map_cons, List.map_cons, stk_ref (rb_own hal)]
  exact va_zast hx hb hE.1 hH.1 ws_D hS a 1 (ws_inl ha he) rfl hi hd (fun H1 locs1 hP1 _ hS1 => kk H1 locs1 lsC (H_set ha hH hP1) hS1 hL hz1 hz2)
theorem s_castore (hC : Cx Γ p s m args meth c k) {a : Nat} {j x : Int32} {e2 : AE} (ha : a < h.2.1) (hg : stI (h.2.2 a) .char j x = some e2) (hd : decode (mCode k) pc = .ok (.castore, 1)) (kk : Wst Γ p l e R s m args below meth c Q k z (pc + 1) ls (st) (setC h a e2)) : Wst Γ p l e R s m args below meth c Q k z pc ls (.int x :: .int j :: .ref a :: st) h := by
  obtain ⟨hx, hb, hml, hown, hts, hin, hE, hΓ⟩ := hC
  intro H locs lsC hH hS hL hz1 hz2
  have hal : a < 1000000 := Nat.lt_trans ha hH.2.2.2
  obtain ⟨n, f, he, hi, rfl⟩ := stI_ok hg
  rw [List.map_cons, List.map_cons, stk_ref (rb_own hal)]
  exact va_cast hx hb hE.1 hH.1 ws_D hS a 2 (ws_inl ha he) rfl hi hd (fun H1 locs1 hP1 _ hS1 => kk H1 locs1 lsC (H_set ha hH hP1) hS1 hL hz1 hz2)
theorem s_lastore (hC : Cx Γ p s m args meth c k) {a : Nat} {j : Int32} {x : Int64} {e2 : AE} (ha : a < h.2.1) (hg : stL (h.2.2 a) j x = some e2) (hd : decode (mCode k) pc = .ok (.lastore, 1)) (kk : Wst Γ p l e R s m args below meth c Q k z (pc + 1) ls (st) (setC h a e2)) : Wst Γ p l e R s m args below meth c Q k z pc ls (.long x :: .int j :: .ref a :: st) h := by
  obtain ⟨hx, hb, hml, hown, hts, hin, hE, hΓ⟩ := hC
  intro H locs lsC hH hS hL hz1 hz2
  have hal : a < 1000000 := Nat.lt_trans ha hH.2.2.2
  obtain ⟨n, f, he, hi, rfl⟩ := stL_ok hg
  rw [List.map_cons, List.map_cons, stk_ref (rb_own hal)]
  exact va_last hx hb hE.1 hH.1 ws_D hS a 3 (ws_inl ha he) rfl hi hd (fun H1 locs1 hP1 _ hS1 => kk H1 locs1 lsC (H_set ha hH hP1) hS1 hL hz1 hz2)
theorem s_ialoadX (hC : Cx Γ p s m args meth c k) {j : Int32} {v : Value} (hg : ldI (h.2.2 1000000) .int j = some v) (hd : decode (mCode k) pc = .ok (.iaload, 1)) (kk : Wst Γ p l e R s m args below meth c Q k z (pc + 1) ls (v :: st) h) : Wst Γ p l e R s m args below meth c Q k z pc ls (.int j :: .ref 1000000 :: st) h := by
  obtain ⟨hx, hb, hml, hown, hts, hin, hE, hΓ⟩ := hC
  intro H locs lsC hH hS hL hz1 hz2
  obtain ⟨n, f, he, hi, rfl⟩ := ldI_ok hg
  rw [hH.2.2.1] at he
  cases he
  obtain ⟨-, -, -, -, -, -, -, hX, hbl, hbA⟩ := hE
  exact va_sld hx hb hX hbl hbA hS hi hd (kk H locs lsC hH hS hL hz1 hz2)
theorem s_alenX (hC : Cx Γ p s m args meth c k) {L : Nat} {f : Nat → Int32} (hg : h.2.2 1000000 = .inl (.int, L, .inl f)) (hd : decode (mCode k) pc = .ok (.arraylength, 1)) (kk : Wst Γ p l e R s m args below meth c Q k z (pc + 1) ls (.int (Int32.ofNat L) :: st) h) : Wst Γ p l e R s m args below meth c Q k z pc ls (.ref 1000000 :: st) h := by
  obtain ⟨hx, hb, hml, hown, hts, hin, hE, hΓ⟩ := hC
  intro H locs lsC hH hS hL hz1 hz2
  rw [hH.2.2.1] at hg
  cases hg
  obtain ⟨-, -, -, -, -, -, -, hX, hbl, hbA⟩ := hE
  exact va_slen hx hb hX hbl hbA hS hd (kk H locs lsC hH hS hL hz1 hz2)
theorem str_at {Γ : GT} {s : State} (hE : E0 Γ s) {i : Nat} (hi : i < 2) : va_OF "java/lang/String" "coder" "B" (.int 0) (Γ.2.1.1 i) (AB Γ) s s.heap ∧ va_OF "java/lang/String" "value" "[B" (.ref (Γ.2.1.2 i)) (Γ.2.1.1 i) (AB Γ) s s.heap ∧ va_T .byte (Γ.2.1.2 i) (lenS i) (fun j => .int ((bytS i).getD j 0)) (AB Γ) s s.heap ∧ va_O "java/lang/String" (Γ.2.1.1 i) (AB Γ) s s.heap := by
  rcases (show i = 0 ∨ i = 1 by omega) with rfl | rfl
  · have h1 := hE.2.2.2.2.1.1 0 (by decide)
    simp only [List.getD_cons_zero] at h1
    exact ⟨h1.2.1, h1.2.2.1, h1.2.2.2, h1.1⟩
  · have h1 := hE.2.2.2.2.1.1 1 (by decide)
    simp only [List.getD_cons_zero, List.getD_cons_succ] at h1
    exact ⟨h1.2.1, h1.2.2.1, h1.2.2.2, h1.1⟩
theorem rb_str {Γ : GT} {a : Nat} (h1 : 1000001 ≤ a) (h2 : a < 1000003) : rb Γ a = .ref (Γ.2.1.1 (a - 1000001)) ∧ rb Γ (a + 10) = .ref (Γ.2.1.2 (a - 1000001)) := by
  unfold rb
  constructor
  · simp only [show ¬ a < 1000000 by omega, show ¬ a = 1000000 by omega, show a < 1000011 by omega, if_true, if_false]
  · simp only [show ¬ a + 10 < 1000000 by omega, show ¬ a + 10 = 1000000 by omega, show ¬ a + 10 < 1000011 by omega, show a + 10 < 1000021 by omega, if_true, if_false, show a + 10 - 1000011 = a - 1000001 by omega]
theorem s_getV (hC : Cx Γ p s m args meth c k) {a : Nat} (h10 : mC k = 10) (h1 : 1000001 ≤ a) (h2 : a < 1000003) (hd : decode (mCode k) pc = .ok (.getfield 9, 3)) (kk : Wst Γ p l e R s m args below meth c Q k z (pc + 3) ls (.ref (a + 10) :: st) h) : Wst Γ p l e R s m args below meth c Q k z pc ls (.ref a :: st) h := by
  obtain ⟨hx, hb, hml, hown, hts, hin, hE, hΓ⟩ := hC
  intro H locs lsC hH hS hL hz1 hz2
  obtain ⟨r1, r2⟩ := rb_str (Γ := Γ) h1 h2
  have hs := str_at hE (i := a - 1000001) (by omega)
  have K := kk H locs lsC hH hS hL hz1 hz2
  rw [stk_ref r2] at K
  rw [stk_ref r1]
  rw [h10] at hown
  exact vk_getf (ref := "java/lang/String") hx hb hs.2.1 hS hown (hts _ fl_str9) (fun _ h9 => h9) hd K
theorem s_getCo (hC : Cx Γ p s m args meth c k) {a : Nat} (h10 : mC k = 10) (h1 : 1000001 ≤ a) (h2 : a < 1000003) (hd : decode (mCode k) pc = .ok (.getfield 15, 3)) (kk : Wst Γ p l e R s m args below meth c Q k z (pc + 3) ls (.int 0 :: st) h) : Wst Γ p l e R s m args below meth c Q k z pc ls (.ref a :: st) h := by
  obtain ⟨hx, hb, hml, hown, hts, hin, hE, hΓ⟩ := hC
  intro H locs lsC hH hS hL hz1 hz2
  obtain ⟨r1, r2⟩ := rb_str (Γ := Γ) h1 h2
  have hs := str_at hE (i := a - 1000001) (by omega)
  rw [stk_ref r1]
  rw [h10] at hown
  exact vk_getf (ref := "java/lang/String") hx hb hs.1 hS hown (hts _ fl_str15) (fun _ h9 => h9) hd (kk H locs lsC hH hS hL hz1 hz2)
theorem s_baloadB (hC : Cx Γ p s m args meth c k) {a : Nat} {j : Int32} (h1 : 1000011 ≤ a) (h2 : a < 1000013) (hi : inB j (lenS (a - 1000011)) = true) (hd : decode (mCode k) pc = .ok (.baload, 1)) (kk : Wst Γ p l e R s m args below meth c Q k z (pc + 1) ls (.int ((bytS (a - 1000011)).getD j.toNatClampNeg 0) :: st) h) : Wst Γ p l e R s m args below meth c Q k z pc ls (.int j :: .ref a :: st) h := by
  obtain ⟨hx, hb, hml, hown, hts, hin, hE, hΓ⟩ := hC
  intro H locs lsC hH hS hL hz1 hz2
  obtain ⟨r1, r2⟩ := rb_str (Γ := Γ) (a := a - 10) (by omega) (by omega)
  rw [show a - 10 + 10 = a by omega, show a - 10 - 1000001 = a - 1000011 by omega] at r2
  have hs := str_at hE (i := a - 1000011) (by omega)
  rw [List.map_cons, stk_ref r2]
  exact va_tb hx hb hs.2.2.1 hS (inB_ok.mp hi) rfl hd (kk H locs lsC hH hS hL hz1 hz2)
theorem s_alenB (hC : Cx Γ p s m args meth c k) {a : Nat} (h1 : 1000011 ≤ a) (h2 : a < 1000013) (hd : decode (mCode k) pc = .ok (.arraylength, 1)) (kk : Wst Γ p l e R s m args below meth c Q k z (pc + 1) ls (.int (Int32.ofNat (lenS (a - 1000011))) :: st) h) : Wst Γ p l e R s m args below meth c Q k z pc ls (.ref a :: st) h := by
  obtain ⟨hx, hb, hml, hown, hts, hin, hE, hΓ⟩ := hC
  intro H locs lsC hH hS hL hz1 hz2
  obtain ⟨r1, r2⟩ := rb_str (Γ := Γ) (a := a - 10) (by omega) (by omega)
  rw [show a - 10 + 10 = a by omega, show a - 10 - 1000001 = a - 1000011 by omega] at r2
  have hs := str_at hE (i := a - 1000011) (by omega)
  rw [stk_ref r2]
  exact va_tlen hx hb hs.2.2.1 hS rfl hd (kk H locs lsC hH hS hL hz1 hz2)
theorem s_gets1 (hC : Cx Γ p s m args meth c k) (h10 : mC k = 10) (hd : decode (mCode k) pc = .ok (.getstatic 38, 3)) (kk : Wst Γ p l e R s m args below meth c Q k z (pc + 3) ls (.int 1 :: st) h) : Wst Γ p l e R s m args below meth c Q k z pc ls st h := by
  obtain ⟨hx, hb, hml, hown, hts, hin, hE, hΓ⟩ := hC
  intro H locs lsC hH hS hL hz1 hz2
  rw [h10] at hown
  exact va_gets (ref := "java/lang/String") hx hb hE.2.2.2.2.2.1 hS hown (hts _ fl_str38) (fun _ h9 => h9) hd (kk H locs lsC hH hS hL hz1 hz2)
theorem s_gets2 (hC : Cx Γ p s m args meth c k) (h10 : mC k = 10) (hd : decode (mCode k) pc = .ok (.getstatic 1053, 3)) (kk : Wst Γ p l e R s m args below meth c Q k z (pc + 3) ls (.ref 1000021 :: st) h) : Wst Γ p l e R s m args below meth c Q k z pc ls st h := by
  obtain ⟨hx, hb, hml, hown, hts, hin, hE, hΓ⟩ := hC
  intro H locs lsC hH hS hL hz1 hz2
  rw [h10] at hown
  exact va_gets (ref := "jdk/internal/util/Preconditions") hx hb hE.2.2.2.2.2.2.1 hS hown (hts _ fl_str1053) (fun _ h9 => h9) hd (kk H locs lsC hH hS hL hz1 hz2)
theorem s_ldcW (hC : Cx Γ p s m args meth c k) (h10 : mC k = 5) (hd : decode (mCode k) pc = .ok (.ldc 19, 2)) (kk : Wst Γ p l e R s m args below meth c Q k z (pc + 2) ls (.ref 1000001 :: st) h) : Wst Γ p l e R s m args below meth c Q k z pc ls st h := by
  obtain ⟨hx, hb, hml, hown, hts, hin, hE, hΓ⟩ := hC
  intro H locs lsC hH hS hL hz1 hz2
  rw [h10] at hown
  exact va_ldcS hx hb hown hE.2.2.1 hd (kk H locs lsC hH hS hL hz1 hz2)
theorem s_ldcS (hC : Cx Γ p s m args meth c k) (h10 : mC k = 2) (hd : decode (mCode k) pc = .ok (.ldc 79, 2)) (kk : Wst Γ p l e R s m args below meth c Q k z (pc + 2) ls (.ref 1000002 :: st) h) : Wst Γ p l e R s m args below meth c Q k z pc ls st h := by
  obtain ⟨hx, hb, hml, hown, hts, hin, hE, hΓ⟩ := hC
  intro H locs lsC hH hS hL hz1 hz2
  rw [h10] at hown
  exact va_ldcS hx hb hown hE.2.2.2.1 hd (kk H locs lsC hH hS hL hz1 hz2)
theorem s_ldc2 (hC : Cx Γ p s m args meth c k) {idx : Nat} {v : Int64} (hv : cstC (mC k) idx = some v) (hd : decode (mCode k) pc = .ok (.ldc2_w idx, 3)) (kk : Wst Γ p l e R s m args below meth c Q k z (pc + 3) ls (.long v :: st) h) : Wst Γ p l e R s m args below meth c Q k z pc ls st h := by
  obtain ⟨hx, hb, hml, hown, hts, hin, hE, hΓ⟩ := hC
  intro H locs lsC hH hS hL hz1 hz2
  exact lv_ldc2 hx hb hown (hts _ (cst_ok hv)) hd (kk H locs lsC hH hS hL hz1 hz2)
end
