/-! CALLS: a walked method's contract, and how a caller takes it -/
abbrev wsM (k : Nat) : List Cond := Cond.code (mY k) (mCode k) (mML k) (mRet k) :: lw_g
def PcM (Γ : GT) (h : AH) (as : List Value) : Array Value → State → Prop := fun v U => v = (as.map (tr Γ)).toArray ∧ HRel Γ h U.heap ∧ E0 Γ U ∧ U.heap.size ≤ Γ.1.1 + h.1.1
def rvO (rv : List Value) : Option Value := match rv with
  | [v] => some v
  | _ => none
def QcM (Γ : GT) (rv : List Value) (h' : AH) : Array Value → State → Outcome → State → Prop := fun _ st o t => o = .returned (rvO rv) ∧ HRel Γ h' t.heap ∧ va_F (AB Γ) st t
theorem good_g {w : Cond} (h : w ∈ lw_g) : (w.onTables && w.keeps) = true ∨ ∃ ty, w = .arrayClass ty := good_of_word (List.mem_filter.mp h).2
theorem good_ws {k : Nat} (hk : k ∈ mAll) : GoodIn lw_g (wsM k) := by
  intro w hw
  rcases List.mem_cons.mp hw with rfl | hw
  · exact ⟨mcode_in hk, good_g (mcode_in hk)⟩
  · exact ⟨hw, good_g hw⟩
theorem PcM_blind {Γ : GT} {h : AH} {as : List Value} : FrameBlind (PcM Γ h as) := by
  intro a U g mk hq
  obtain ⟨h1, h2, h3, h4⟩ := hq
  exact ⟨h1, h2, h3.moved (U := U.calling g mk a) (State.WarmedH.refl U) (fun _ _ _ => rfl) (Nat.le_refl _), h4⟩
theorem mChk_spec {k : Nat} (hk : k ∈ mAll) : (if mKd k = 1 then Cond.static (mY k) else Cond.instanceMethod (mY k)) ∈ lw_g ∧ (mKd k = 0 → Cond.selects (clsN (mC k)) (mY k) (mY k) ∈ lw_g) ∧ Cond.initialized (clsN (mC k)) ∈ lw_g ∧ plainName (mY k).cls = true ∧ (mY k).cls = clsN (mC k) ∧ ((mY k).cls ≠ "java/lang/invoke/MethodHandle" ∧ (mY k).cls ≠ "java/lang/invoke/VarHandle" ∧ (parseMethodDescriptor (mY k).desc).map (fun d => d.parameters.length) = some (if mKd k = 1 then mPar k else mPar k - 1)) ∧ mML k ≤ 30 ∧ (mKd k = 2 → (mY k).name = "<init>") ∧ mKd k ≤ 2 ∧ (mKd k = 1 ∨ 1 ≤ mPar k) ∧ 1 ≤ rk0 k ∧ (mKd k = 2 → mRet k = none) := by
  have h := mChk_all hk
  simp only [mChk, Bool.and_eq_true, decide_eq_true_eq, Bool.or_eq_true] at h
  obtain ⟨⟨⟨⟨⟨⟨⟨⟨⟨⟨⟨⟨⟨h1, h2⟩, h3⟩, h4⟩, h5⟩, h6⟩, h7⟩, h8⟩, h9⟩, h10⟩, h11⟩, h12⟩, h13⟩, h14⟩ := h
  exact ⟨isW_in h1, fun q => h2.elim (fun w => absurd q w) isW_in, isW_in h3, h4, h5, ⟨h6, h7, h8⟩, h9, h10, h11, h12, h13, h14⟩
section
variable {p : Program} {l : Launch} {e : Env} {R : Room} {s : State} {m : MethodId} {args : Array Value} {below : List Frame} {meth : Method} {c : Code} {Q : State → Prop} {Γ : GT} {k : Nat} {z : Nat × Nat} {pc : Nat} {ls st : List Value} {h : AH}
/-- a method's own end -/
theorem ret_sound (hC : Cx Γ p s m args meth c k) (hret : meth.sig.returnType = mRet k) (hlocks : meth.locks = false) {rv : List Value} (hr : retV k pc st = some rv) (hne : rv ≠ [thr]) : Wst Γ p l e R s m args below meth c (MQ below (QcM Γ rv h) args s (h.1.1 - z.1) (h.1.2 - z.2) (AB Γ)) k z pc ls st h := by
  obtain ⟨hx, hb, hml, hown, hts, hin, hE, hΓ⟩ := hC
  intro H locs lsC hH hS hL hz1 hz2
  unfold retV at hr
  split at hr
  · rename_i hd
    split at hr
    · rename_i v ty hty
      split at hr
      · rename_i hn
        cases hr
        exact W.zret hx hb (hret.trans hty) hn (fun t ht hW => ⟨rfl, by rw [ht]; exact hH, hS.F ht⟩) hS.2.2 hd
      · cases hr
    · cases hr
  · rename_i hd
    split at hr
    · rename_i hty
      cases hr
      exact W.vret hx hb (hret.trans hty) (fun t ht hW => ⟨rfl, by rw [ht]; exact hH, hS.F ht⟩) hS.2.2 hd
    · cases hr
  · split at hr
    · split at hr
      · cases hr
        exact absurd rfl hne
      · cases hr
    · cases hr
  · cases hr
/-- behind a call -/
theorem run_go {H : Heap} {locs : List Loc} {cells slots mc ms : Nat} {lsC : Array Slot} {st0 rest : List Value} {rv : List Value} {h1 : AH} {a : Array Value} (hr : va_Run p l e R s m args below meth c H locs cells slots mc ms (F0 m pc lsC st0) rest (QcM Γ rv h1 a) (AB Γ)) (hS : va_S (AB Γ) s.heap H locs)
    (kk : ∀ (H1 : Heap) (locs1 : List Loc), HRel Γ h1 H1 → va_S (AB Γ) s.heap H1 locs1 → W p l e R s m args below meth c H1 locs1 (cells + mc) (slots + ms) Q (F0 m (pc + 3) lsC ((rvO rv).toList ++ rest))) : W p l e R s m args below meth c H locs cells slots Q (F0 m pc lsC st0) := by
  intro T hT X
  obtain ⟨v, st₀, t, T', L, h0, X', hL, e1, e2, ⟨hv, hH1, hF⟩, st⟩ := hr T hT X
  cases hv
  have hz : H.size ≤ T'.heap.size := by
    have h2 := hF.1
    rw [h0] at h2
    rw [e1]
    exact h2
  have hk : ∀ q : Nat, q < H.size → ¬ AB Γ q → T'.heap[q]? = H[q]? := by
    intro q h2 h3
    have h4 := hF.2 q (by rw [h0]; exact h2) h3
    rw [h0] at h4
    rw [e1]
    exact h4
  obtain ⟨t2, a1, b1⟩ := kk T'.heap (locs ++ L) (by rw [e1]; exact hH1) ⟨Nat.le_trans hS.1 hz, fun q h2 h3 => (hk q (Nat.lt_of_lt_of_le h2 hS.1) h3).trans (hS.2.1 q h2 h3), fun q hq => by
      rcases List.mem_append.mp hq with h5 | h5
      · exact hS.2.2 q h5
      · exact hL q h5⟩ T' rfl X'
  exact ⟨t2, st t2 a1, b1⟩
theorem rv_map {Γ : GT} {k pf : Nat} {sf rv r : List Value} (hr : retV k pf sf = some rv) (hne : rv ≠ [thr]) : (rvO rv).toList ++ r.map (tr Γ) = (rv ++ r).map (tr Γ) := by
  unfold retV at hr
  split at hr
  · split at hr
    · split at hr
      · cases hr; rfl
      · cases hr
    · cases hr
  · split at hr
    · cases hr; rfl
    · cases hr
  · split at hr
    · split at hr
      · cases hr
        exact absurd rfl hne
      · cases hr
    · cases hr
  · cases hr
theorem recv_ok {H : Heap} {locs : List Loc} {k' : Nat} {a : Nat} {as : List Value} (hk' : k' ∈ mAll) (hE : E0 Γ s) (hH : HRel Γ h H) (hS : va_S (AB Γ) s.heap H locs) (hr : recvOK 0 k' (.ref a :: as) h = true) : ∃ q, rb Γ a = .ref q ∧ ∃ cell : Cell, H[q]? = some cell ∧ cell.vm.isStatics = false ∧ s.vm.findClass (clsN (mC k')) = some cell.cls := by
  simp only [recvOK, Bool.or_eq_true, Bool.and_eq_true, decide_eq_true_eq] at hr
  rcases hr with ⟨ha, hc⟩ | ⟨⟨h10, h1⟩, h2⟩
  · have hal : a < 1000000 := Nat.lt_trans ha hH.2.2.2
    refine ⟨_, rb_own hal, ?_⟩
    unfold clsAt at hc
    split at hc
    · rename_i ci fs he
      cases hc
      obtain ⟨r, hr1, hr2⟩ := hH.1 a _ (ws_inr ha he)
      have hlt : mC k' < 9 := (List.getElem?_eq_some_iff.mp hr1).1
      exact va_recv hE.1 hH.1 (cls_ok hlt).1 (ws_inr ha he)
    · cases hc
  · obtain ⟨r1, -⟩ := rb_str (Γ := Γ) h1 h2
    refine ⟨_, r1, ?_⟩
    rw [h10]
    have h3 : @LT.lt Nat _ a 1000003 := h2
    exact vk_recv (i := a - 1000001) hE.2.2.2.2.1 (show a - 1000001 < 2 by omega) hS
theorem recv_form0 {k' : Nat} {as : List Value} (hq : recvOK 0 k' as h = true) : ∃ a as', as = .ref a :: as' := by
  cases as with
  | nil => simp [recvOK] at hq
  | cons v as' =>
    cases v with
    | ref a => exact ⟨a, as', rfl⟩
    | _ => simp [recvOK] at hq
theorem recv_form2 {k' : Nat} {as : List Value} (hq : recvOK 2 k' as h = true) : ∃ a as', as = .ref a :: as' ∧ a < 1000000 := by
  cases as with
  | nil => simp [recvOK] at hq
  | cons v as' =>
    cases v with
    | ref a => exact ⟨a, as', rfl, by simpa [recvOK] using hq⟩
    | _ => simp [recvOK] at hq
/-- the call itself, by a contract of the callee's -/
theorem call_sound (hC : Cx Γ p s m args meth c k) {i : Instr} {kd k' d : Nat} {as r rv : List Value} {h1 : AH} {pf : Nat} {sf : List Value} (hd : decode (mCode k) pc = .ok (i, 3)) (hc : callOf k i = some (kd, k')) (ha : cAr k d kd k' st h = some (as, r)) (hF : rk k d ≤ R.frames) (hLo : 60 * rk k d ≤ R.locals) (hR1 : h1.1.1 - z.1 ≤ R.cells) (hR2 : h1.1.2 - z.2 ≤ R.slots) (hu : leU h h1) (hz0 : s.heap.size ≤ Γ.1.1 + z.1) (hrv : retV k' pf sf = some rv) (hne : rv ≠ [thr])
    (hM : Met l (mY k') (wsM k') { frames := rk k' (dep k' as), cells := h1.1.1 - h.1.1, slots := h1.1.2 - h.1.2, locals := 60 * rk k' (dep k' as) } (PcM Γ h as) (QcM Γ rv h1) (h1.1.1 - h.1.1) (h1.1.2 - h.1.2) (AB Γ))
    (kk : Wst Γ p l e R s m args below meth c Q k z (pc + 3) ls (rv ++ r) h1) : Wst Γ p l e R s m args below meth c Q k z pc ls st h := by
  have hC0 := hC
  obtain ⟨hx, hb, hml, hown, hts, hin, hE, hΓ⟩ := hC
  intro H locs lsC hH hS hL hz1 hz2 T hT X
  have hsz : H.size ≤ Γ.1.1 + h.1.1 := by
    have h2 := X.heapSize
    rw [hT] at h2
    omega
  unfold cAr at ha
  split at ha
  · rename_i hq
    obtain ⟨q1, q2, q3, q4, q5, q6, q7⟩ := hq
    cases ha
    generalize has : (st.take (mPar k')).reverse = as at *
    generalize hr : st.drop (mPar k') = r at *
    have hst : st = as.reverse ++ r := by rw [← has, ← hr, List.reverse_reverse, List.take_append_drop]
    have hlen : as.length = mPar k' := by rw [← has, List.length_reverse, List.length_take]; omega
    have hstT : st.map (tr Γ) = (as.map (tr Γ)).reverse ++ r.map (tr Γ) := by rw [hst, List.map_append, List.map_reverse]
    have hcat : 2 * (F0 m pc lsC (st.map (tr Γ))).monitorRoom + ((r.map (tr Γ)).map fun v => v.category).sum ≤ 8 := lv_room (by rw [tr_catS hΓ]; exact q2)
    have hcells : h.1.1 - z.1 + (h1.1.1 - h.1.1) ≤ R.cells ∧ h.1.2 - z.2 + (h1.1.2 - h.1.2) ≤ R.slots := by
      have e1 := hu.1
      have e2 := hu.2
      omega
    have hPc : ∀ U : State, U.heap = H → s.WarmedH U.vm → PcM Γ h as (as.map (tr Γ)).toArray U := fun U hU hW => ⟨rfl, by rw [hU]; exact hH, hE.moved hW (fun q hq1 hq2 => by rw [hU]; exact hS.2.1 q hq1 hq2) (by rw [hU]; exact hS.1), by rw [hU]; exact hsz⟩
    have kk2 : ∀ (H1 : Heap) (locs1 : List Loc), HRel Γ h1 H1 → va_S (AB Γ) s.heap H1 locs1 → W p l e R s m args below meth c H1 locs1 (h.1.1 - z.1 + (h1.1.1 - h.1.1)) (h.1.2 - z.2 + (h1.1.2 - h.1.2)) Q (F0 m (pc + 3) lsC ((rvO rv).toList ++ r.map (tr Γ))) := by
      intro H1 locs1 hH1 hS1
      have K := kk H1 locs1 lsC hH1 hS1 hL (Nat.le_trans hz1 hu.1) (Nat.le_trans hz2 hu.2)
      rw [rv_map hrv hne]
      have e1 : h1.1.1 - z.1 = h.1.1 - z.1 + (h1.1.1 - h.1.1) := by have := hu.1; omega
      have e2 : h1.1.2 - z.2 = h.1.2 - z.2 + (h1.1.2 - h.1.2) := by have := hu.2; omega
      rw [← e1, ← e2]
      exact K
    have hS0 : CallFix p m c (mCode k) (mML k) s args lw_g (clsN (mC k)) := ⟨hx, hb, hml, hown, hts⟩
    have fin : ∀ {idx : Nat}, cal (mC k) idx = some (kd, k') → k' ∈ mAll := by
      intro idx hcal
      obtain ⟨pq, hq⟩ := cal_ok hcal
      simp only [calChk, Bool.and_eq_true, decide_eq_true_eq] at hq
      exact hq.1
    have link : ∀ {idx : Nat}, cal (mC k) idx = some (kd, k') → kd ≠ 3 → Cond.methodLink (clsN (mC k)) idx (mY k') ∈ lw_g ∧ kd = mKd k' := by
      intro idx hcal h3
      obtain ⟨pq, hq⟩ := cal_ok hcal
      simp only [calChk, Bool.and_eq_true, decide_eq_true_eq, Bool.or_eq_true] at hq
      rcases hq.2 with w | w
      · exact absurd w.1 h3
      · exact ⟨isW_in w.1, w.2⟩
    have hRm : k' ∈ mAll → rk k' (dep k' as) + 1 ≤ R.frames ∧ 8 + (mML k' + 11) + 60 * rk k' (dep k' as) ≤ R.locals := by
      intro hk'
      have h30 := (mChk_spec hk').2.2.2.2.2.2.1
      omega
    unfold callOf at hc
    split at hc
    · rename_i idx
      split at hc
      · rename_i kd2 k2 hcal
        split at hc
        · rename_i hkd
          cases hc
          subst hkd
          have hk' := fin hcal
          obtain ⟨hl, hkd⟩ := link hcal (by decide)
          obtain ⟨m1, m2, m3, m4, m5, m6, m7, m8, m9, m10, m11, m12⟩ := mChk_spec hk'
          rw [if_neg (by omega)] at m1
          rw [if_neg (by omega)] at m6
          obtain ⟨a, as', rfl⟩ := recv_form0 q3
          obtain ⟨q, hq, hcell⟩ := recv_ok hk' hE hH hS q3
          have hargs : ((Value.ref a :: as').map (tr Γ)) = .ref q :: as'.map (tr Γ) := stk_ref hq
          rw [hargs] at hPc hstT
          have hr2 := va_runV (e := e) (R := R) (below := below) (meth := meth) (H := H) (locs := locs) (cells := h.1.1 - z.1) (slots := h.1.2 - z.2) (As := as'.map (tr Γ)) (rest := r.map (tr Γ)) (b := q) (C := clsN (mC k')) (g := F0 m pc lsC (st.map (tr Γ))) hS0 hM
            ⟨callB_of (mPar k' - 1) hts (good_ws hk') rfl rfl rfl (by rw [m5]; exact hts _ m3) (hts _ hl) m6 (hRm hk'), hts _ m1, hts _ (m2 hkd.symm)⟩ ⟨PcM_blind, hcell, hPc⟩ rfl (by simp at hlen ⊢; omega) hL.1 (by rw [hstT]; simp) hcat hd hcells
          exact run_go hr2 hS kk2 T hT X
        · cases hc
      · cases hc
    · rename_i idx
      split at hc
      · rename_i kd2 k2 hcal
        split at hc
        · rename_i hkd
          cases hc
          have hk' := fin hcal
          obtain ⟨m1, m2, m3, m4, m5, m6, m7, m8, m9, m10, m11, m12⟩ := mChk_spec hk'
          by_cases h3 : kd = 3
          · subst h3
            obtain ⟨pq, hq⟩ := cal_ok hcal
            simp only [calChk, Bool.and_eq_true, decide_eq_true_eq, Bool.or_eq_true] at hq
            rcases hq.2 with ⟨-, w1, w2, w3, w4⟩ | ⟨-, w⟩
            · rw [if_pos w4] at m1 m6
              have hnest : va_Nw (.methodLinkNest (clsN (mC k)) idx (mY k') "PostBus") s := by
                rw [w1, w2, w3]
                exact hE.2.1.1
              have hr2 := va_runSN (e := e) (R := R) (below := below) (meth := meth) (H := H) (locs := locs) (cells := h.1.1 - z.1) (slots := h.1.2 - z.2) (As := as.map (tr Γ)) (rest := r.map (tr Γ)) (g := F0 m pc lsC (st.map (tr Γ))) hS0 hM
                ⟨va_cnB (mPar k') hts (good_ws hk') rfl rfl rfl hnest (by rw [m5]; exact hts _ m3) m6 (hRm hk'), hts _ m1, trivial⟩ ⟨PcM_blind, hPc⟩ rfl (by simp [hlen]) hL.1 hstT hcat hd hcells
              exact run_go hr2 hS kk2 T hT X
            · omega
          · obtain ⟨hl, hkd2⟩ := link hcal h3
            have hk1 : mKd k' = 1 := by omega
            rw [if_pos hk1] at m1 m6
            have hr2 := va_runS (e := e) (R := R) (below := below) (meth := meth) (H := H) (locs := locs) (cells := h.1.1 - z.1) (slots := h.1.2 - z.2) (As := as.map (tr Γ)) (rest := r.map (tr Γ)) (g := F0 m pc lsC (st.map (tr Γ))) hS0 hM
              ⟨callB_of (mPar k') hts (good_ws hk') rfl rfl rfl (by rw [m5]; exact hts _ m3) (hts _ hl) m6 (hRm hk'), hts _ m1⟩ ⟨PcM_blind, hPc⟩ rfl (by simp [hlen]) hL.1 hstT hcat hd hcells
            exact run_go hr2 hS kk2 T hT X
        · cases hc
      · cases hc
    · rename_i idx
      split at hc
      · rename_i kd2 k2 hcal
        split at hc
        · rename_i hkd
          cases hc
          subst hkd
          have hk' := fin hcal
          obtain ⟨hl, hkd⟩ := link hcal (by decide)
          obtain ⟨m1, m2, m3, m4, m5, m6, m7, m8, m9, m10, m11, m12⟩ := mChk_spec hk'
          rw [if_neg (by omega)] at m1
          rw [if_neg (by omega)] at m6
          obtain ⟨a, as', rfl, ha0⟩ := recv_form2 q3
          have hq : rb Γ a = .ref (Γ.1.1 + a) := rb_own ha0
          have hargs : ((Value.ref a :: as').map (tr Γ)) = .ref (Γ.1.1 + a) :: as'.map (tr Γ) := stk_ref hq
          rw [hargs] at hPc hstT
          have hM2 := hM
          have hgw := good_ws hk'
          unfold wsM at hM2 hgw
          rw [m12 hkd.symm] at hM2 hgw
          have hr2 := va_runI (e := e) (R := R) (below := below) (meth := meth) (H := H) (locs := locs) (cells := h.1.1 - z.1) (slots := h.1.2 - z.2) (As := as'.map (tr Γ)) (rest := r.map (tr Γ)) (b := Γ.1.1 + a) (g := F0 m pc lsC (st.map (tr Γ))) hS0 hM2
            ⟨callB_of (mPar k' - 1) hts hgw rfl rfl rfl (by rw [m5]; exact hts _ m3) (hts _ hl) m6 (hRm hk'), m8 hkd.symm, hts _ m1⟩ ⟨PcM_blind, hPc⟩ rfl (by simp at hlen ⊢; omega) hL.1 (by rw [hstT]; simp) hcat hd hcells
          exact run_go hr2 hS kk2 T hT X
        · cases hc
      · cases hc
    · cases hc
  · cases ha
end
