/-! THE CONSTRUCTORS, the larger ones -/
section
variable {k pc d : Nat} {a c s ci : Nat} {F : Nat → AE} {fs : List Value} {ls l1 st : List Value} {h : AH} {Q : List Value → AH → Prop}
theorem vu_h {a b : Nat} {e x : AE} (hb : b ≠ a) (h : F b = e) : va_up F a x b = e := (vu_ne hb).trans h
theorem w_callI {idx k' : Nat} {as r : List Value} (hd : decode (mCode k) pc = .ok (.invokespecial idx, 3)) (hc : cal (mC k) idx = some (2, k')) (hst : st = as.reverse ++ r) (hp : mPar k' = as.length) (hcat : catS r ≤ 8) (hrec : recvOK 2 k' as h = true) (hok : as.all okA = true) (hls : lsOK k' (iniL as) = true) (hlen : (iniL as).length ≤ mML k') (hrk : rk k' (dep k' as) < rk k d) : WP k d pc ls st h Q ↔ Call k' as h (fun rv h' => rv ≠ [thr] ∧ WP k d (pc + 3) ls (rv ++ r) h' Q) :=
  WP_call (kd := 2) hd rfl rfl (by show (match cal (mC k) idx with | some (kd, k') => _ | none => none) = _; rw [hc]; rfl) (cAr_of hst hp hcat hrec hok hls hlen hrk)
theorem mk_nw {idx ci' N : Nat} {ds : List Value} (h : decode (mCode k) pc = .ok (.new idx, 3)) (hfi : isFin k (.new idx) = false) (hn : newC (mC k) idx = some ci') (hN : vN ci' = N) (hd : (List.range (vN ci')).map (fun j => defaultValue (vTy ci' j)) = ds) (hc9 : c < 999999) (hQ : WP k 0 (pc + 3) l1 (.ref c :: st) (oS (c + 1) (s + N) (va_up F a (.inr (ci, fs))) c ci' ds) Q) : WP k 0 pc l1 st (oS c s F a ci fs) Q := by
  rw [WP_to (y := (pc + 3, l1, .ref c :: st, newO (oS c s F a ci fs) ci')) h rfl hfi rfl rfl ?_]
  · have e : newO (oS c s F a ci fs) ci' = oS (c + 1) (s + N) (va_up F a (.inr (ci, fs))) c ci' ds := by
      rw [← hN, ← hd]
      rfl
    rw [e]
    exact hQ
  · show (match newC (mC k) idx with | some ci => _ | none => none) = _
    rw [hn]
    exact if_pos ⟨rfl, hc9⟩
theorem mk_ref {idx j r : Nat} {n : Fin 4} (h1 : decode (mCode k) pc = .ok (.aload_n 0, 1)) (h2 : decode (mCode k) (pc + 1) = .ok (.aload_n n, 1)) (hr : getR (.ref a :: l1) (n : Nat) = some r) (h4 : decode (mCode k) (pc + 2) = .ok (.putfield idx, 3)) (hf : fld (mC k) idx = some (ci, j)) (hj : j < fs.length) (hac : a < c) (ha : a < 1000000) (hok : okV (vTy ci j) (.ref r) = true) (hfin : (vT ci j).2.2.2 = false ∨ (mKd k = 2 ∧ mC k = ci)) (hQ : WP k 0 (pc + 5) (.ref a :: l1) [] (oS c s F a ci (fs.set j (.ref r))) Q) : WP k 0 pc (.ref a :: l1) [] (oS c s F a ci fs) Q := by
  rw [w_aload_n (v := a) h1 (by show (if a < 1000020 then some a else none) = _; rw [if_pos (by omega)]), w_aload_n h2 hr]
  exact mk_put h4 hf hj hac hok hfin hQ
/-- a getfield of the object that is being made -/
theorem mk_get {idx j r : Nat} (h : decode (mCode k) pc = .ok (.getfield idx, 3)) (hm : mC k ≠ 10) (hf : fld (mC k) idx = some (ci, j)) (hj : fs[j]? = some (.ref r)) {H : AH} {G : Nat → AE} {c0 : Nat} {u : Nat × Nat} (hH : H = (u, c0, G)) (hG : G a = .inr (ci, fs)) (hac : a < c0) : WP k 0 pc l1 (.ref a :: st) H Q ↔ WP k 0 (pc + 3) l1 (.ref r :: st) H Q := by
  rw [WP_to (y := (pc + 3, l1, .ref r :: st, H)) h rfl rfl rfl rfl ?_]
  show (if mC k = 10 then _ else (match fld (mC k) idx with | some (ci, j) => _ | none => none)) = _
  rw [if_neg hm, hf]
  have hp : gF (G a) ci j = some (.ref r) := by
    rw [hG]
    exact (if_pos rfl).trans hj
  subst hH
  refine Eq.trans (if_pos hac) ((congrArg (Option.map _) hp).trans rfl)
/-- an array's cell beside the object that is being made -/
theorem mk_ist {i n b : Nat} {v : Int32} {f : Nat → Int32} (h : decode (mCode k) pc = .ok (.iastore, 1)) (hab : a ≠ b) (hbc : b < c) (hi : i < n) (hn : n < 2147483648) (hQ : WP k 0 (pc + 1) l1 st (oS c s (va_up F b (.inl (.int, n, .inl (upd f i v)))) a ci fs) Q) : WP k 0 pc l1 (.int v :: .int (ic i) :: .ref b :: st) (oS c s (va_up F b (.inl (.int, n, .inl f))) a ci fs) Q := by
  rw [WP_to (y := (pc + 1, l1, st, oS c s (va_up F b (.inl (.int, n, .inl (upd f i v)))) a ci fs)) h rfl rfl rfl rfl ?_]
  · exact hQ
  · have hp : stI (va_up (va_up F b (.inl (.int, n, .inl f))) a (.inr (ci, fs)) b) .int (ic i) v = some (.inl (.int, n, .inl (upd f i v))) := by
      rw [vu_ne (fun q => hab q.symm), vu_get]
      show (if FieldType.int = .int ∧ inB (ic i) n = true then some (.inl (FieldType.int, n, .inl (upd f (ic i).toNatClampNeg (vp_nar .int v)))) else none : Option AE) = _
      rw [if_pos ⟨rfl, by rw [inB_ic (by omega)]; exact hi⟩, ic_clamp (by omega)]
      rfl
    refine Eq.trans (if_pos hbc) ((congrArg (Option.map _) hp).trans ?_)
    show some (pc + 1, l1, st, ((c, s), c, va_up (va_up (va_up F b (.inl (.int, n, .inl f))) a (.inr (ci, fs))) b (.inl (.int, n, .inl (upd f i v))))) = _
    rw [vu_com hab, vu_two]
    rfl
theorem mk_bst {i n b : Nat} {v : Int32} {f : Nat → Int32} (h : decode (mCode k) pc = .ok (.bastore, 1)) (hab : a ≠ b) (hbc : b < c) (hi : i < n) (hn : n < 2147483648) (hv : vp_nar .boolean v = v) (hQ : WP k 0 (pc + 1) l1 st (oS c s (va_up F b (.inl (.boolean, n, .inl (upd f i v)))) a ci fs) Q) : WP k 0 pc l1 (.int v :: .int (ic i) :: .ref b :: st) (oS c s (va_up F b (.inl (.boolean, n, .inl f))) a ci fs) Q := by
  rw [WP_to (y := (pc + 1, l1, st, oS c s (va_up F b (.inl (.boolean, n, .inl (upd f i v)))) a ci fs)) h rfl rfl rfl rfl ?_]
  · exact hQ
  · have hp : stI (va_up (va_up F b (.inl (.boolean, n, .inl f))) a (.inr (ci, fs)) b) .boolean (ic i) v = some (.inl (.boolean, n, .inl (upd f i v))) := by
      rw [vu_ne (fun q => hab q.symm), vu_get]
      show (if FieldType.boolean = .boolean ∧ inB (ic i) n = true then some (.inl (FieldType.boolean, n, .inl (upd f (ic i).toNatClampNeg (vp_nar .boolean v)))) else none : Option AE) = _
      rw [if_pos ⟨rfl, by rw [inB_ic (by omega)]; exact hi⟩, ic_clamp (by omega), hv]
    refine Eq.trans (if_pos hbc) ((congrArg (Option.map _) hp).trans ?_)
    show some (pc + 1, l1, st, ((c, s), c, va_up (va_up (va_up F b (.inl (.boolean, n, .inl f))) a (.inr (ci, fs))) b (.inl (.boolean, n, .inl (upd f i v))))) = _
    rw [vu_com hab, vu_two]
    rfl
theorem mk_lst {i n b : Nat} {v : Int64} {f : Nat → Int64} (h : decode (mCode k) pc = .ok (.lastore, 1)) (hab : a ≠ b) (hbc : b < c) (hi : i < n) (hn : n < 2147483648) (hQ : WP k 0 (pc + 1) l1 st (oS c s (va_up F b (.inl (.long, n, .inr (.inl (vp_updL f i v))))) a ci fs) Q) : WP k 0 pc l1 (.long v :: .int (ic i) :: .ref b :: st) (oS c s (va_up F b (.inl (.long, n, .inr (.inl f)))) a ci fs) Q := by
  rw [WP_to (y := (pc + 1, l1, st, oS c s (va_up F b (.inl (.long, n, .inr (.inl (vp_updL f i v))))) a ci fs)) h rfl rfl rfl rfl ?_]
  · exact hQ
  · have hp : stL (va_up (va_up F b (.inl (.long, n, .inr (.inl f)))) a (.inr (ci, fs)) b) (ic i) v = some (.inl (.long, n, .inr (.inl (vp_updL f i v)))) := by
      rw [vu_ne (fun q => hab q.symm), vu_get]
      show (if FieldType.long = .long ∧ inB (ic i) n = true then some (.inl (FieldType.long, n, .inr (.inl (vp_updL f (ic i).toNatClampNeg v)))) else none : Option AE) = _
      rw [if_pos ⟨rfl, by rw [inB_ic (by omega)]; exact hi⟩, ic_clamp (by omega)]
    refine Eq.trans (if_pos hbc) ((congrArg (Option.map _) hp).trans ?_)
    show some (pc + 1, l1, st, ((c, s), c, va_up (va_up (va_up F b (.inl (.long, n, .inr (.inl f)))) a (.inr (ci, fs))) b (.inl (.long, n, .inr (.inl (vp_updL f i v)))))) = _
    rw [vu_com hab, vu_two]
    rfl
end

theorem ini_16 {s : Nat} {F : Nat → AE} {Q : List Value → AH → Prop} (h_16 : F 16 = .inr (2, [.ref 17, .ref 22, .ref 23, .ref 24, .int 0, .int 0])) (h_17 : F 17 = .inr (4, [.int 0, .ref 18, .ref 19, .ref 20, .ref 21, .int 0])) (h_18 : F 18 = .inl (.int, 24, .inl (fun _ => 0))) (h_19 : F 19 = .inl (.int, 24, .inl (fun _ => 0))) (h_20 : F 20 = .inl (.int, 24, .inl (fun _ => 0))) (h_21 : F 21 = .inl (.int, 800, .inl (fun _ => 0))) (h_22 : F 22 = .inl (.int, 800, .inl (fun _ => 0))) (h_23 : F 23 = .inl (.int, 800, .inl (fun _ => 0))) (h_24 : F 24 = .inl (.int, 800, .inl (fun _ => 0))) (hQ : Q [] ((25, s + 3278), 25, F)) : Call 20 [.ref 16] (oS 17 s F 16 2 [.null, .null, .null, .null, .int 0, .int 0]) Q := by
  show WP 20 0 0 (.ref 16 :: []) [] (oS 17 s F 16 2 [.null, .null, .null, .null, .int 0, .int 0]) Q
  refine mk_oin (idx := 3) (show decode (mCode 20) 0 = .ok (.aload_n 0, 1) by decide +kernel) (show decode (mCode 20) 1 = .ok (.invokespecial 3, 3) by decide +kernel) rfl rfl (by decide) ?_
  refine (w_aload_n (v := 16) (show decode (mCode 20) 4 = .ok (.aload_n 0, 1) by decide +kernel) rfl).2 ?_
  refine mk_nw (ci' := 4) (N := 6) (ds := [.int 0, .null, .null, .null, .null, .int 0]) (show decode (mCode 20) 5 = .ok (.new 9, 3) by decide +kernel) rfl rfl rfl rfl (by decide) ?_
  refine (w_dupR (show decode (mCode 20) 8 = .ok (.dup, 1) by decide +kernel) (by decide)).2 ?_
  refine (w_callI (k' := 44) (as := [.ref 17]) (r := [.ref 17, .ref 16]) (show decode (mCode 20) 9 = .ok (.invokespecial 11, 3) by decide +kernel) rfl rfl rfl (by decide) rfl rfl rfl (by decide) (by show rk 44 0 < rk 20 0; decide +kernel)).2 ?_
  refine ini_17 (vu_h (by decide) h_17) (vu_h (by decide) h_18) (vu_h (by decide) h_19) (vu_h (by decide) h_20) (vu_h (by decide) h_21) ⟨by simp, ?_⟩
  show WP 20 0 12 _ (.ref 17 :: .ref 16 :: []) (oS 22 (s + 878) F 16 2 [.null, .null, .null, .null, .int 0, .int 0]) Q
  refine mk_put (show decode (mCode 20) 12 = .ok (.putfield 12, 3) by decide +kernel) rfl (by decide) (by decide) (by decide +kernel) (by decide +kernel) ?_
  refine mk_arr (n := 800) (j := 1) (e := .inl (.int, 800, .inl (fun _ => 0))) (show decode (mCode 20) 15 = .ok (.aload_n 0, 1) by decide +kernel) (fun st h Q => w_sipush (show decode (mCode 20) 16 = .ok (.sipush 800, 3) by decide +kernel) rfl) (show decode (mCode 20) 19 = .ok (.newarray .int, 2) by decide +kernel) (show decode (mCode 20) 21 = .ok (.putfield 18, 3) by decide +kernel) rfl (by decide) (by decide) (by decide) (by decide) rfl h_22 (by decide +kernel) (by decide +kernel) ?_
  refine mk_arr (n := 800) (j := 2) (e := .inl (.int, 800, .inl (fun _ => 0))) (show decode (mCode 20) 24 = .ok (.aload_n 0, 1) by decide +kernel) (fun st h Q => w_sipush (show decode (mCode 20) 25 = .ok (.sipush 800, 3) by decide +kernel) rfl) (show decode (mCode 20) 28 = .ok (.newarray .int, 2) by decide +kernel) (show decode (mCode 20) 30 = .ok (.putfield 22, 3) by decide +kernel) rfl (by decide) (by decide) (by decide) (by decide) rfl h_23 (by decide +kernel) (by decide +kernel) ?_
  refine mk_arr (n := 800) (j := 3) (e := .inl (.int, 800, .inl (fun _ => 0))) (show decode (mCode 20) 33 = .ok (.aload_n 0, 1) by decide +kernel) (fun st h Q => w_sipush (show decode (mCode 20) 34 = .ok (.sipush 800, 3) by decide +kernel) rfl) (show decode (mCode 20) 37 = .ok (.newarray .int, 2) by decide +kernel) (show decode (mCode 20) 39 = .ok (.putfield 25, 3) by decide +kernel) rfl (by decide) (by decide) (by decide) (by decide) rfl h_24 (by decide +kernel) (by decide +kernel) ?_
  rw [w_ret (show decode (mCode 20) 42 = .ok (.return_, 1) by decide +kernel) rfl]
  have g : Q [] ((25, s + 3278), 25, va_up F 16 (.inr (2, [.ref 17, .ref 22, .ref 23, .ref 24, .int 0, .int 0]))) := by rw [vu_same h_16]; exact hQ
  exact g
theorem ini_25 {s : Nat} {F : Nat → AE} {Q : List Value → AH → Prop} (h_25 : F 25 = .inr (6, [.ref 1, .ref 11, .ref 26, .ref 39, .ref 48, .int 0])) (h_26 : F 26 = .inr (0, [.int 0, .ref 27, .ref 28, .ref 29, .ref 30, .ref 31, .ref 32, .ref 33, .ref 34, .ref 35, .ref 36, .ref 37, .ref 38])) (h_27 : F 27 = .inl (.boolean, 12, .inl (fun _ => 0))) (h_28 : F 28 = .inl (.int, 12, .inl (fun _ => 0))) (h_29 : F 29 = .inl (.int, 12, .inl (fun _ => 0))) (h_30 : F 30 = .inl (.int, 12, .inl (fun _ => 0))) (h_31 : F 31 = .inl (.int, 12, .inl (fun _ => 0))) (h_32 : F 32 = .inl (.int, 12, .inl (fun _ => 0))) (h_33 : F 33 = .inl (.int, 12, .inl (fun _ => 0))) (h_34 : F 34 = .inl (.int, 12, .inl (fun _ => 0))) (h_35 : F 35 = .inl (.int, 12, .inl (fun _ => 0))) (h_36 : F 36 = .inl (.int, 12, .inl (fun _ => 0))) (h_37 : F 37 = .inl (.int, 12, .inl (fun _ => 0))) (h_38 : F 38 = .inl (.int, 12, .inl (fun _ => 0))) (h_39 : F 39 = .inr (1, [.int 0, .ref 40, .ref 41, .ref 42, .ref 43, .ref 44, .ref 45, .ref 46, .ref 47])) (h_40 : F 40 = .inl (.int, 80, .inl (fun _ => 0))) (h_41 : F 41 = .inl (.int, 80, .inl (fun _ => 0))) (h_42 : F 42 = .inl (.int, 80, .inl (fun _ => 0))) (h_43 : F 43 = .inl (.int, 80, .inl (fun _ => 0))) (h_44 : F 44 = .inl (.int, 80, .inl (fun _ => 0))) (h_45 : F 45 = .inl (.int, 80, .inl (fun _ => 0))) (h_46 : F 46 = .inl (.int, 80, .inl (fun _ => 0))) (h_47 : F 47 = .inl (.int, 80, .inl (fun _ => 0))) (h_48 : F 48 = .inl (.int, 32, .inl (fun _ => 0))) (hQ : Q [] ((49, s + 838), 49, F)) : Call 58 [.ref 25, .ref 1, .ref 11] (oS 26 s F 25 6 [.null, .null, .null, .null, .null, .int 0]) Q := by
  show WP 58 0 0 (.ref 25 :: [.ref 1, .ref 11]) [] (oS 26 s F 25 6 [.null, .null, .null, .null, .null, .int 0]) Q
  refine mk_oin (idx := 3) (show decode (mCode 58) 0 = .ok (.aload_n 0, 1) by decide +kernel) (show decode (mCode 58) 1 = .ok (.invokespecial 3, 3) by decide +kernel) rfl rfl (by decide) ?_
  refine mk_ref (show decode (mCode 58) 4 = .ok (.aload_n 0, 1) by decide +kernel) (show decode (mCode 58) 5 = .ok (.aload_n 1, 1) by decide +kernel) rfl (show decode (mCode 58) 6 = .ok (.putfield 9, 3) by decide +kernel) rfl (by decide) (by decide) (by decide) (by decide +kernel) (by decide +kernel) ?_
  refine mk_ref (show decode (mCode 58) 9 = .ok (.aload_n 0, 1) by decide +kernel) (show decode (mCode 58) 10 = .ok (.aload_n 2, 1) by decide +kernel) rfl (show decode (mCode 58) 11 = .ok (.putfield 15, 3) by decide +kernel) rfl (by decide) (by decide) (by decide) (by decide +kernel) (by decide +kernel) ?_
  refine (w_aload_n (v := 25) (show decode (mCode 58) 14 = .ok (.aload_n 0, 1) by decide +kernel) rfl).2 ?_
  refine mk_nw (ci' := 0) (N := 13) (ds := [.int 0, .null, .null, .null, .null, .null, .null, .null, .null, .null, .null, .null, .null]) (show decode (mCode 58) 15 = .ok (.new 19, 3) by decide +kernel) rfl rfl rfl rfl (by decide) ?_
  refine (w_dupR (show decode (mCode 58) 18 = .ok (.dup, 1) by decide +kernel) (by decide)).2 ?_
  refine (w_callI (k' := 0) (as := [.ref 26]) (r := [.ref 26, .ref 25]) (show decode (mCode 58) 19 = .ok (.invokespecial 21, 3) by decide +kernel) rfl rfl rfl (by decide) rfl rfl rfl (by decide) (by show rk 0 0 < rk 58 0; decide +kernel)).2 ?_
  refine ini_26 (vu_h (by decide) h_26) (vu_h (by decide) h_27) (vu_h (by decide) h_28) (vu_h (by decide) h_29) (vu_h (by decide) h_30) (vu_h (by decide) h_31) (vu_h (by decide) h_32) (vu_h (by decide) h_33) (vu_h (by decide) h_34) (vu_h (by decide) h_35) (vu_h (by decide) h_36) (vu_h (by decide) h_37) (vu_h (by decide) h_38) ⟨by simp, ?_⟩
  show WP 58 0 22 _ (.ref 26 :: .ref 25 :: []) (oS 39 (s + 157) F 25 6 ((([.null, .null, .null, .null, .null, .int 0]).set 0 (.ref 1)).set 1 (.ref 11))) Q
  refine mk_put (show decode (mCode 58) 22 = .ok (.putfield 22, 3) by decide +kernel) rfl (by decide) (by decide) (by decide +kernel) (by decide +kernel) ?_
  refine (w_aload_n (v := 25) (show decode (mCode 58) 25 = .ok (.aload_n 0, 1) by decide +kernel) rfl).2 ?_
  refine mk_nw (ci' := 1) (N := 9) (ds := [.int 0, .null, .null, .null, .null, .null, .null, .null, .null]) (show decode (mCode 58) 26 = .ok (.new 26, 3) by decide +kernel) rfl rfl rfl rfl (by decide) ?_
  refine (w_dupR (show decode (mCode 58) 29 = .ok (.dup, 1) by decide +kernel) (by decide)).2 ?_
  refine (w_callI (k' := 12) (as := [.ref 39]) (r := [.ref 39, .ref 25]) (show decode (mCode 58) 30 = .ok (.invokespecial 28, 3) by decide +kernel) rfl rfl rfl (by decide) rfl rfl rfl (by decide) (by show rk 12 0 < rk 58 0; decide +kernel)).2 ?_
  refine ini_39 (vu_h (by decide) h_39) (vu_h (by decide) h_40) (vu_h (by decide) h_41) (vu_h (by decide) h_42) (vu_h (by decide) h_43) (vu_h (by decide) h_44) (vu_h (by decide) h_45) (vu_h (by decide) h_46) (vu_h (by decide) h_47) ⟨by simp, ?_⟩
  show WP 58 0 33 _ (.ref 39 :: .ref 25 :: []) (oS 48 (s + 806) F 25 6 (((([.null, .null, .null, .null, .null, .int 0]).set 0 (.ref 1)).set 1 (.ref 11)).set 2 (.ref 26))) Q
  refine mk_put (show decode (mCode 58) 33 = .ok (.putfield 29, 3) by decide +kernel) rfl (by decide) (by decide) (by decide +kernel) (by decide +kernel) ?_
  refine mk_arr (n := 32) (j := 4) (e := .inl (.int, 32, .inl (fun _ => 0))) (show decode (mCode 58) 36 = .ok (.aload_n 0, 1) by decide +kernel) (fun st h Q => w_bipush (show decode (mCode 58) 37 = .ok (.bipush 32, 2) by decide +kernel) rfl) (show decode (mCode 58) 39 = .ok (.newarray .int, 2) by decide +kernel) (show decode (mCode 58) 41 = .ok (.putfield 33, 3) by decide +kernel) rfl (by decide) (by decide) (by decide) (by decide) rfl h_48 (by decide +kernel) (by decide +kernel) ?_
  rw [w_ret (show decode (mCode 58) 44 = .ok (.return_, 1) by decide +kernel) rfl]
  have g : Q [] ((49, s + 838), 49, va_up F 25 (.inr (6, [.ref 1, .ref 11, .ref 26, .ref 39, .ref 48, .int 0]))) := by rw [vu_same h_25]; exact hQ
  exact g
theorem ini_49 {s : Nat} {F : Nat → AE} {Q : List Value → AH → Prop} (h_49 : F 49 = .inr (6, [.ref 1, .ref 11, .ref 50, .ref 63, .ref 72, .int 0])) (h_50 : F 50 = .inr (0, [.int 0, .ref 51, .ref 52, .ref 53, .ref 54, .ref 55, .ref 56, .ref 57, .ref 58, .ref 59, .ref 60, .ref 61, .ref 62])) (h_51 : F 51 = .inl (.boolean, 12, .inl (fun _ => 0))) (h_52 : F 52 = .inl (.int, 12, .inl (fun _ => 0))) (h_53 : F 53 = .inl (.int, 12, .inl (fun _ => 0))) (h_54 : F 54 = .inl (.int, 12, .inl (fun _ => 0))) (h_55 : F 55 = .inl (.int, 12, .inl (fun _ => 0))) (h_56 : F 56 = .inl (.int, 12, .inl (fun _ => 0))) (h_57 : F 57 = .inl (.int, 12, .inl (fun _ => 0))) (h_58 : F 58 = .inl (.int, 12, .inl (fun _ => 0))) (h_59 : F 59 = .inl (.int, 12, .inl (fun _ => 0))) (h_60 : F 60 = .inl (.int, 12, .inl (fun _ => 0))) (h_61 : F 61 = .inl (.int, 12, .inl (fun _ => 0))) (h_62 : F 62 = .inl (.int, 12, .inl (fun _ => 0))) (h_63 : F 63 = .inr (1, [.int 0, .ref 64, .ref 65, .ref 66, .ref 67, .ref 68, .ref 69, .ref 70, .ref 71])) (h_64 : F 64 = .inl (.int, 80, .inl (fun _ => 0))) (h_65 : F 65 = .inl (.int, 80, .inl (fun _ => 0))) (h_66 : F 66 = .inl (.int, 80, .inl (fun _ => 0))) (h_67 : F 67 = .inl (.int, 80, .inl (fun _ => 0))) (h_68 : F 68 = .inl (.int, 80, .inl (fun _ => 0))) (h_69 : F 69 = .inl (.int, 80, .inl (fun _ => 0))) (h_70 : F 70 = .inl (.int, 80, .inl (fun _ => 0))) (h_71 : F 71 = .inl (.int, 80, .inl (fun _ => 0))) (h_72 : F 72 = .inl (.int, 32, .inl (fun _ => 0))) (hQ : Q [] ((73, s + 838), 73, F)) : Call 58 [.ref 49, .ref 1, .ref 11] (oS 50 s F 49 6 [.null, .null, .null, .null, .null, .int 0]) Q := by
  show WP 58 0 0 (.ref 49 :: [.ref 1, .ref 11]) [] (oS 50 s F 49 6 [.null, .null, .null, .null, .null, .int 0]) Q
  refine mk_oin (idx := 3) (show decode (mCode 58) 0 = .ok (.aload_n 0, 1) by decide +kernel) (show decode (mCode 58) 1 = .ok (.invokespecial 3, 3) by decide +kernel) rfl rfl (by decide) ?_
  refine mk_ref (show decode (mCode 58) 4 = .ok (.aload_n 0, 1) by decide +kernel) (show decode (mCode 58) 5 = .ok (.aload_n 1, 1) by decide +kernel) rfl (show decode (mCode 58) 6 = .ok (.putfield 9, 3) by decide +kernel) rfl (by decide) (by decide) (by decide) (by decide +kernel) (by decide +kernel) ?_
  refine mk_ref (show decode (mCode 58) 9 = .ok (.aload_n 0, 1) by decide +kernel) (show decode (mCode 58) 10 = .ok (.aload_n 2, 1) by decide +kernel) rfl (show decode (mCode 58) 11 = .ok (.putfield 15, 3) by decide +kernel) rfl (by decide) (by decide) (by decide) (by decide +kernel) (by decide +kernel) ?_
  refine (w_aload_n (v := 49) (show decode (mCode 58) 14 = .ok (.aload_n 0, 1) by decide +kernel) rfl).2 ?_
  refine mk_nw (ci' := 0) (N := 13) (ds := [.int 0, .null, .null, .null, .null, .null, .null, .null, .null, .null, .null, .null, .null]) (show decode (mCode 58) 15 = .ok (.new 19, 3) by decide +kernel) rfl rfl rfl rfl (by decide) ?_
  refine (w_dupR (show decode (mCode 58) 18 = .ok (.dup, 1) by decide +kernel) (by decide)).2 ?_
  refine (w_callI (k' := 0) (as := [.ref 50]) (r := [.ref 50, .ref 49]) (show decode (mCode 58) 19 = .ok (.invokespecial 21, 3) by decide +kernel) rfl rfl rfl (by decide) rfl rfl rfl (by decide) (by show rk 0 0 < rk 58 0; decide +kernel)).2 ?_
  refine ini_50 (vu_h (by decide) h_50) (vu_h (by decide) h_51) (vu_h (by decide) h_52) (vu_h (by decide) h_53) (vu_h (by decide) h_54) (vu_h (by decide) h_55) (vu_h (by decide) h_56) (vu_h (by decide) h_57) (vu_h (by decide) h_58) (vu_h (by decide) h_59) (vu_h (by decide) h_60) (vu_h (by decide) h_61) (vu_h (by decide) h_62) ⟨by simp, ?_⟩
  show WP 58 0 22 _ (.ref 50 :: .ref 49 :: []) (oS 63 (s + 157) F 49 6 ((([.null, .null, .null, .null, .null, .int 0]).set 0 (.ref 1)).set 1 (.ref 11))) Q
  refine mk_put (show decode (mCode 58) 22 = .ok (.putfield 22, 3) by decide +kernel) rfl (by decide) (by decide) (by decide +kernel) (by decide +kernel) ?_
  refine (w_aload_n (v := 49) (show decode (mCode 58) 25 = .ok (.aload_n 0, 1) by decide +kernel) rfl).2 ?_
  refine mk_nw (ci' := 1) (N := 9) (ds := [.int 0, .null, .null, .null, .null, .null, .null, .null, .null]) (show decode (mCode 58) 26 = .ok (.new 26, 3) by decide +kernel) rfl rfl rfl rfl (by decide) ?_
  refine (w_dupR (show decode (mCode 58) 29 = .ok (.dup, 1) by decide +kernel) (by decide)).2 ?_
  refine (w_callI (k' := 12) (as := [.ref 63]) (r := [.ref 63, .ref 49]) (show decode (mCode 58) 30 = .ok (.invokespecial 28, 3) by decide +kernel) rfl rfl rfl (by decide) rfl rfl rfl (by decide) (by show rk 12 0 < rk 58 0; decide +kernel)).2 ?_
  refine ini_63 (vu_h (by decide) h_63) (vu_h (by decide) h_64) (vu_h (by decide) h_65) (vu_h (by decide) h_66) (vu_h (by decide) h_67) (vu_h (by decide) h_68) (vu_h (by decide) h_69) (vu_h (by decide) h_70) (vu_h (by decide) h_71) ⟨by simp, ?_⟩
  show WP 58 0 33 _ (.ref 63 :: .ref 49 :: []) (oS 72 (s + 806) F 49 6 (((([.null, .null, .null, .null, .null, .int 0]).set 0 (.ref 1)).set 1 (.ref 11)).set 2 (.ref 50))) Q
  refine mk_put (show decode (mCode 58) 33 = .ok (.putfield 29, 3) by decide +kernel) rfl (by decide) (by decide) (by decide +kernel) (by decide +kernel) ?_
  refine mk_arr (n := 32) (j := 4) (e := .inl (.int, 32, .inl (fun _ => 0))) (show decode (mCode 58) 36 = .ok (.aload_n 0, 1) by decide +kernel) (fun st h Q => w_bipush (show decode (mCode 58) 37 = .ok (.bipush 32, 2) by decide +kernel) rfl) (show decode (mCode 58) 39 = .ok (.newarray .int, 2) by decide +kernel) (show decode (mCode 58) 41 = .ok (.putfield 33, 3) by decide +kernel) rfl (by decide) (by decide) (by decide) (by decide) rfl h_72 (by decide +kernel) (by decide +kernel) ?_
  rw [w_ret (show decode (mCode 58) 44 = .ok (.return_, 1) by decide +kernel) rfl]
  have g : Q [] ((73, s + 838), 73, va_up F 49 (.inr (6, [.ref 1, .ref 11, .ref 50, .ref 63, .ref 72, .int 0]))) := by rw [vu_same h_49]; exact hQ
  exact g
theorem ini_73 {s : Nat} {F : Nat → AE} {Q : List Value → AH → Prop} (h_73 : F 73 = .inr (6, [.ref 1, .ref 11, .ref 74, .ref 87, .ref 96, .int 0])) (h_74 : F 74 = .inr (0, [.int 0, .ref 75, .ref 76, .ref 77, .ref 78, .ref 79, .ref 80, .ref 81, .ref 82, .ref 83, .ref 84, .ref 85, .ref 86])) (h_75 : F 75 = .inl (.boolean, 12, .inl (fun _ => 0))) (h_76 : F 76 = .inl (.int, 12, .inl (fun _ => 0))) (h_77 : F 77 = .inl (.int, 12, .inl (fun _ => 0))) (h_78 : F 78 = .inl (.int, 12, .inl (fun _ => 0))) (h_79 : F 79 = .inl (.int, 12, .inl (fun _ => 0))) (h_80 : F 80 = .inl (.int, 12, .inl (fun _ => 0))) (h_81 : F 81 = .inl (.int, 12, .inl (fun _ => 0))) (h_82 : F 82 = .inl (.int, 12, .inl (fun _ => 0))) (h_83 : F 83 = .inl (.int, 12, .inl (fun _ => 0))) (h_84 : F 84 = .inl (.int, 12, .inl (fun _ => 0))) (h_85 : F 85 = .inl (.int, 12, .inl (fun _ => 0))) (h_86 : F 86 = .inl (.int, 12, .inl (fun _ => 0))) (h_87 : F 87 = .inr (1, [.int 0, .ref 88, .ref 89, .ref 90, .ref 91, .ref 92, .ref 93, .ref 94, .ref 95])) (h_88 : F 88 = .inl (.int, 80, .inl (fun _ => 0))) (h_89 : F 89 = .inl (.int, 80, .inl (fun _ => 0))) (h_90 : F 90 = .inl (.int, 80, .inl (fun _ => 0))) (h_91 : F 91 = .inl (.int, 80, .inl (fun _ => 0))) (h_92 : F 92 = .inl (.int, 80, .inl (fun _ => 0))) (h_93 : F 93 = .inl (.int, 80, .inl (fun _ => 0))) (h_94 : F 94 = .inl (.int, 80, .inl (fun _ => 0))) (h_95 : F 95 = .inl (.int, 80, .inl (fun _ => 0))) (h_96 : F 96 = .inl (.int, 32, .inl (fun _ => 0))) (hQ : Q [] ((97, s + 838), 97, F)) : Call 58 [.ref 73, .ref 1, .ref 11] (oS 74 s F 73 6 [.null, .null, .null, .null, .null, .int 0]) Q := by
  show WP 58 0 0 (.ref 73 :: [.ref 1, .ref 11]) [] (oS 74 s F 73 6 [.null, .null, .null, .null, .null, .int 0]) Q
  refine mk_oin (idx := 3) (show decode (mCode 58) 0 = .ok (.aload_n 0, 1) by decide +kernel) (show decode (mCode 58) 1 = .ok (.invokespecial 3, 3) by decide +kernel) rfl rfl (by decide) ?_
  refine mk_ref (show decode (mCode 58) 4 = .ok (.aload_n 0, 1) by decide +kernel) (show decode (mCode 58) 5 = .ok (.aload_n 1, 1) by decide +kernel) rfl (show decode (mCode 58) 6 = .ok (.putfield 9, 3) by decide +kernel) rfl (by decide) (by decide) (by decide) (by decide +kernel) (by decide +kernel) ?_
  refine mk_ref (show decode (mCode 58) 9 = .ok (.aload_n 0, 1) by decide +kernel) (show decode (mCode 58) 10 = .ok (.aload_n 2, 1) by decide +kernel) rfl (show decode (mCode 58) 11 = .ok (.putfield 15, 3) by decide +kernel) rfl (by decide) (by decide) (by decide) (by decide +kernel) (by decide +kernel) ?_
  refine (w_aload_n (v := 73) (show decode (mCode 58) 14 = .ok (.aload_n 0, 1) by decide +kernel) rfl).2 ?_
  refine mk_nw (ci' := 0) (N := 13) (ds := [.int 0, .null, .null, .null, .null, .null, .null, .null, .null, .null, .null, .null, .null]) (show decode (mCode 58) 15 = .ok (.new 19, 3) by decide +kernel) rfl rfl rfl rfl (by decide) ?_
  refine (w_dupR (show decode (mCode 58) 18 = .ok (.dup, 1) by decide +kernel) (by decide)).2 ?_
  refine (w_callI (k' := 0) (as := [.ref 74]) (r := [.ref 74, .ref 73]) (show decode (mCode 58) 19 = .ok (.invokespecial 21, 3) by decide +kernel) rfl rfl rfl (by decide) rfl rfl rfl (by decide) (by show rk 0 0 < rk 58 0; decide +kernel)).2 ?_
  refine ini_74 (vu_h (by decide) h_74) (vu_h (by decide) h_75) (vu_h (by decide) h_76) (vu_h (by decide) h_77) (vu_h (by decide) h_78) (vu_h (by decide) h_79) (vu_h (by decide) h_80) (vu_h (by decide) h_81) (vu_h (by decide) h_82) (vu_h (by decide) h_83) (vu_h (by decide) h_84) (vu_h (by decide) h_85) (vu_h (by decide) h_86) ⟨by simp, ?_⟩
  show WP 58 0 22 _ (.ref 74 :: .ref 73 :: []) (oS 87 (s + 157) F 73 6 ((([.null, .null, .null, .null, .null, .int 0]).set 0 (.ref 1)).set 1 (.ref 11))) Q
  refine mk_put (show decode (mCode 58) 22 = .ok (.putfield 22, 3) by decide +kernel) rfl (by decide) (by decide) (by decide +kernel) (by decide +kernel) ?_
  refine (w_aload_n (v := 73) (show decode (mCode 58) 25 = .ok (.aload_n 0, 1) by decide +kernel) rfl).2 ?_
  refine mk_nw (ci' := 1) (N := 9) (ds := [.int 0, .null, .null, .null, .null, .null, .null, .null, .null]) (show decode (mCode 58) 26 = .ok (.new 26, 3) by decide +kernel) rfl rfl rfl rfl (by decide) ?_
  refine (w_dupR (show decode (mCode 58) 29 = .ok (.dup, 1) by decide +kernel) (by decide)).2 ?_
  refine (w_callI (k' := 12) (as := [.ref 87]) (r := [.ref 87, .ref 73]) (show decode (mCode 58) 30 = .ok (.invokespecial 28, 3) by decide +kernel) rfl rfl rfl (by decide) rfl rfl rfl (by decide) (by show rk 12 0 < rk 58 0; decide +kernel)).2 ?_
  refine ini_87 (vu_h (by decide) h_87) (vu_h (by decide) h_88) (vu_h (by decide) h_89) (vu_h (by decide) h_90) (vu_h (by decide) h_91) (vu_h (by decide) h_92) (vu_h (by decide) h_93) (vu_h (by decide) h_94) (vu_h (by decide) h_95) ⟨by simp, ?_⟩
  show WP 58 0 33 _ (.ref 87 :: .ref 73 :: []) (oS 96 (s + 806) F 73 6 (((([.null, .null, .null, .null, .null, .int 0]).set 0 (.ref 1)).set 1 (.ref 11)).set 2 (.ref 74))) Q
  refine mk_put (show decode (mCode 58) 33 = .ok (.putfield 29, 3) by decide +kernel) rfl (by decide) (by decide) (by decide +kernel) (by decide +kernel) ?_
  refine mk_arr (n := 32) (j := 4) (e := .inl (.int, 32, .inl (fun _ => 0))) (show decode (mCode 58) 36 = .ok (.aload_n 0, 1) by decide +kernel) (fun st h Q => w_bipush (show decode (mCode 58) 37 = .ok (.bipush 32, 2) by decide +kernel) rfl) (show decode (mCode 58) 39 = .ok (.newarray .int, 2) by decide +kernel) (show decode (mCode 58) 41 = .ok (.putfield 33, 3) by decide +kernel) rfl (by decide) (by decide) (by decide) (by decide) rfl h_96 (by decide +kernel) (by decide +kernel) ?_
  rw [w_ret (show decode (mCode 58) 44 = .ok (.return_, 1) by decide +kernel) rfl]
  have g : Q [] ((97, s + 838), 97, va_up F 73 (.inr (6, [.ref 1, .ref 11, .ref 74, .ref 87, .ref 96, .int 0]))) := by rw [vu_same h_73]; exact hQ
  exact g
