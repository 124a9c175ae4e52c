/-! THE CONSTRUCTORS: the road and the class -/
theorem lp_road {s cc : Nat} {F : Nat → AE} {fs : List Value} {Q : List Value → AH → Prop} (hcc : 7 < cc) (hfs : fs[7]? = some (.ref 7)) : ∀ d i f, i + d = 8 → (∀ f', (∀ j, j < 8 → f' j = if i ≤ j then -1 else f j) → WP 33 0 86 [.ref 1, .int (ic 8)] [] (oS cc s (va_up F 7 (.inl (.int, 8, .inl f'))) 1 3 fs) Q) → WP 33 0 67 [.ref 1, .int (ic i)] [] (oS cc s (va_up F 7 (.inl (.int, 8, .inl f))) 1 3 fs) Q := by
  intro d
  induction d with
  | zero =>
    intro i f hi hQ
    have e : i = 8 := by omega
    subst e
    rw [w_iload_n (show decode (mCode 33) 67 = .ok (.iload_n 1, 1) by decide +kernel) rfl, w_bipush (v := 8) (show decode (mCode 33) 68 = .ok (.bipush 8, 2) by decide +kernel) rfl, w_icmp_ge (t := 86) (show decode (mCode 33) 70 = .ok (.if_icmp .ge 16, 3) by decide +kernel) (by decide), if_pos (by decide)]
    exact hQ f (fun j hj => by rw [if_neg (by omega)])
  | succ d ih =>
    intro i f hi hQ
    have e1 : ¬ ((8 : Int32) ≤ ic i) := by rw [show (8 : Int32) = ic 8 from rfl, ic_le (by omega) (by omega)]; omega
    rw [w_iload_n (show decode (mCode 33) 67 = .ok (.iload_n 1, 1) by decide +kernel) rfl, w_bipush (v := 8) (show decode (mCode 33) 68 = .ok (.bipush 8, 2) by decide +kernel) rfl, w_icmp_ge (t := 86) (show decode (mCode 33) 70 = .ok (.if_icmp .ge 16, 3) by decide +kernel) (by decide), if_neg e1, w_aload_n (v := 1) (show decode (mCode 33) 73 = .ok (.aload_n 0, 1) by decide +kernel) rfl]
    refine (mk_get (a := 1) (show decode (mCode 33) 74 = .ok (.getfield 32, 3) by decide +kernel) (by decide) rfl hfs rfl vu_get (by omega)).2 ?_
    rw [w_iload_n (show decode (mCode 33) 77 = .ok (.iload_n 1, 1) by decide +kernel) rfl, w_iconst (v := -1) (show decode (mCode 33) 78 = .ok (.iconst (-1), 1) by decide +kernel) rfl]
    refine mk_ist (show decode (mCode 33) 79 = .ok (.iastore, 1) by decide +kernel) (by decide) (by omega) (by omega) (by decide) ?_
    rw [w_iinc (v := ic i) (l2 := [.ref 1, .int (ic i + 1)]) (show decode (mCode 33) 80 = .ok (.iinc 1 1, 3) by decide +kernel) rfl rfl, ic_add1, w_goto (t := 67) (show decode (mCode 33) 83 = .ok (.goto (-16), 3) by decide +kernel) (by decide)]
    refine ih (i + 1) _ (by omega) (fun f' hf' => hQ f' (fun j hj => ?_))
    rw [hf' j hj]
    by_cases q : i + 1 ≤ j
    · rw [if_pos q, if_pos (by omega)]
    · rw [if_neg q]
      simp only [upd]
      by_cases q2 : j = i
      · rw [if_pos q2, if_pos (by omega)]
      · rw [if_neg q2, if_neg (by omega)]
theorem ini_1 {s : Nat} {F : Nat → AE} {Q : List Value → AH → Prop} (h_1 : F 1 = .inr (3, [.int 1, .ref 2, .ref 3, .int 0, .ref 4, .ref 5, .ref 6, .ref 7, .ref 8])) (h_2 : F 2 = .inl (.int, 10, .inl (fun _ => 0))) (h_3 : F 3 = .inl (.boolean, 10, .inl (fun _ => 0))) (h_4 : F 4 = .inl (.int, 20, .inl (fun _ => 0))) (h_5 : F 5 = .inl (.int, 20, .inl (fun _ => 0))) (h_6 : F 6 = .inl (.int, 20, .inl (fun _ => 0))) (h_7 : F 7 = .inl (.int, 8, .inl (fun _ => 0))) (h_8 : F 8 = .inl (.int, 8, .inl (fun _ => 0))) (hQ : ∀ f, (∀ j, j < 8 → f j = -1) → Q [] ((9, s + 96), 9, va_up F 7 (.inl (.int, 8, .inl f)))) : Call 33 [.ref 1] (oS 2 s F 1 3 [.int 0, .null, .null, .int 0, .null, .null, .null, .null, .null]) Q := by
  show WP 33 0 0 (.ref 1 :: [poi]) [] (oS 2 s F 1 3 [.int 0, .null, .null, .int 0, .null, .null, .null, .null, .null]) Q
  refine mk_oin (idx := 3) (show decode (mCode 33) 0 = .ok (.aload_n 0, 1) by decide +kernel) (show decode (mCode 33) 1 = .ok (.invokespecial 3, 3) by decide +kernel) rfl rfl (by decide) ?_
  refine mk_int (v := 1) (j := 0) (show decode (mCode 33) 4 = .ok (.aload_n 0, 1) by decide +kernel) (fun st h Q => w_iconst (show decode (mCode 33) 5 = .ok (.iconst 1, 1) by decide +kernel) rfl) (show decode (mCode 33) 6 = .ok (.putfield 9, 3) by decide +kernel) rfl (by decide) (by decide) (by decide) (by decide +kernel) (by decide +kernel) ?_
  refine mk_arr (n := 10) (j := 1) (e := .inl (.int, 10, .inl (fun _ => 0))) (show decode (mCode 33) 9 = .ok (.aload_n 0, 1) by decide +kernel) (fun st h Q => w_bipush (show decode (mCode 33) 10 = .ok (.bipush 10, 2) by decide +kernel) rfl) (show decode (mCode 33) 12 = .ok (.newarray .int, 2) by decide +kernel) (show decode (mCode 33) 14 = .ok (.putfield 15, 3) by decide +kernel) rfl (by decide) (by decide) (by decide) (by decide) rfl h_2 (by decide +kernel) (by decide +kernel) ?_
  refine mk_arr (n := 10) (j := 2) (e := .inl (.boolean, 10, .inl (fun _ => 0))) (show decode (mCode 33) 17 = .ok (.aload_n 0, 1) by decide +kernel) (fun st h Q => w_bipush (show decode (mCode 33) 18 = .ok (.bipush 10, 2) by decide +kernel) rfl) (show decode (mCode 33) 20 = .ok (.newarray .boolean, 2) by decide +kernel) (show decode (mCode 33) 22 = .ok (.putfield 19, 3) by decide +kernel) rfl (by decide) (by decide) (by decide) (by decide) rfl h_3 (by decide +kernel) (by decide +kernel) ?_
  refine mk_arr (n := 20) (j := 4) (e := .inl (.int, 20, .inl (fun _ => 0))) (show decode (mCode 33) 25 = .ok (.aload_n 0, 1) by decide +kernel) (fun st h Q => w_bipush (show decode (mCode 33) 26 = .ok (.bipush 20, 2) by decide +kernel) rfl) (show decode (mCode 33) 28 = .ok (.newarray .int, 2) by decide +kernel) (show decode (mCode 33) 30 = .ok (.putfield 23, 3) by decide +kernel) rfl (by decide) (by decide) (by decide) (by decide) rfl h_4 (by decide +kernel) (by decide +kernel) ?_
  refine mk_arr (n := 20) (j := 5) (e := .inl (.int, 20, .inl (fun _ => 0))) (show decode (mCode 33) 33 = .ok (.aload_n 0, 1) by decide +kernel) (fun st h Q => w_bipush (show decode (mCode 33) 34 = .ok (.bipush 20, 2) by decide +kernel) rfl) (show decode (mCode 33) 36 = .ok (.newarray .int, 2) by decide +kernel) (show decode (mCode 33) 38 = .ok (.putfield 26, 3) by decide +kernel) rfl (by decide) (by decide) (by decide) (by decide) rfl h_5 (by decide +kernel) (by decide +kernel) ?_
  refine mk_arr (n := 20) (j := 6) (e := .inl (.int, 20, .inl (fun _ => 0))) (show decode (mCode 33) 41 = .ok (.aload_n 0, 1) by decide +kernel) (fun st h Q => w_bipush (show decode (mCode 33) 42 = .ok (.bipush 20, 2) by decide +kernel) rfl) (show decode (mCode 33) 44 = .ok (.newarray .int, 2) by decide +kernel) (show decode (mCode 33) 46 = .ok (.putfield 29, 3) by decide +kernel) rfl (by decide) (by decide) (by decide) (by decide) rfl h_6 (by decide +kernel) (by decide +kernel) ?_
  refine mk_arr (n := 8) (j := 7) (e := .inl (.int, 8, .inl (fun _ => 0))) (show decode (mCode 33) 49 = .ok (.aload_n 0, 1) by decide +kernel) (fun st h Q => w_bipush (show decode (mCode 33) 50 = .ok (.bipush 8, 2) by decide +kernel) rfl) (show decode (mCode 33) 52 = .ok (.newarray .int, 2) by decide +kernel) (show decode (mCode 33) 54 = .ok (.putfield 32, 3) by decide +kernel) rfl (by decide) (by decide) (by decide) (by decide) rfl h_7 (by decide +kernel) (by decide +kernel) ?_
  refine mk_arr (n := 8) (j := 8) (e := .inl (.int, 8, .inl (fun _ => 0))) (show decode (mCode 33) 57 = .ok (.aload_n 0, 1) by decide +kernel) (fun st h Q => w_bipush (show decode (mCode 33) 58 = .ok (.bipush 8, 2) by decide +kernel) rfl) (show decode (mCode 33) 60 = .ok (.newarray .int, 2) by decide +kernel) (show decode (mCode 33) 62 = .ok (.putfield 35, 3) by decide +kernel) rfl (by decide) (by decide) (by decide) (by decide) rfl h_8 (by decide +kernel) (by decide +kernel) ?_
  refine (w_iconst (v := ic 0) (show decode (mCode 33) 65 = .ok (.iconst 0, 1) by decide +kernel) rfl).2 ?_
  refine (w_istore_n (v := ic 0) (l2 := [.ref 1, .int (ic 0)]) (show decode (mCode 33) 66 = .ok (.istore_n 1, 1) by decide +kernel) rfl).2 ?_
  have e7 : va_up F 7 (.inl (.int, 8, .inl (fun _ => 0))) = F := vu_same h_7
  have lp := lp_road (s := s + 96) (cc := 9) (F := F) (fs := [.int 1, .ref 2, .ref 3, .int 0, .ref 4, .ref 5, .ref 6, .ref 7, .ref 8]) (Q := Q) (by decide) rfl 8 0 (fun _ => 0) rfl
  rw [e7] at lp
  refine lp (fun f' hf' => ?_)
  rw [w_ret (show decode (mCode 33) 86 = .ok (.return_, 1) by decide +kernel) rfl]
  have g := hQ f' (fun j hj => by rw [hf' j hj, if_pos (by omega)])
  have e1 : va_up (va_up F 7 (.inl (.int, 8, .inl f'))) 1 (.inr (3, [.int 1, .ref 2, .ref 3, .int 0, .ref 4, .ref 5, .ref 6, .ref 7, .ref 8])) = va_up F 7 (.inl (.int, 8, .inl f')) := vu_same (vu_h (by decide) h_1)
  rw [← e1] at g
  exact g
theorem ini_0 {s : Nat} {F : Nat → AE} {Q : List Value → AH → Prop} (h_0 : F 0 = .inr (7, [.ref 1, .ref 9, .ref 11, .ref 16, .ref 25, .ref 49, .ref 73, .int (-1)])) (h_1 : F 1 = .inr (3, [.int 1, .ref 2, .ref 3, .int 0, .ref 4, .ref 5, .ref 6, .ref 7, .ref 8])) (h_2 : F 2 = .inl (.int, 10, .inl (fun _ => 0))) (h_3 : F 3 = .inl (.boolean, 10, .inl (fun _ => 0))) (h_4 : F 4 = .inl (.int, 20, .inl (fun _ => 0))) (h_5 : F 5 = .inl (.int, 20, .inl (fun _ => 0))) (h_6 : F 6 = .inl (.int, 20, .inl (fun _ => 0))) (h_7 : F 7 = .inl (.int, 8, .inl (fun _ => 0))) (h_8 : F 8 = .inl (.int, 8, .inl (fun _ => 0))) (h_9 : F 9 = .inr (5, [.ref 10, .int 0])) (h_10 : F 10 = .inl (.char, 800, .inl (fun _ => 0))) (h_11 : F 11 = .inr (4, [.int 0, .ref 12, .ref 13, .ref 14, .ref 15, .int 0])) (h_12 : F 12 = .inl (.int, 24, .inl (fun _ => 0))) (h_13 : F 13 = .inl (.int, 24, .inl (fun _ => 0))) (h_14 : F 14 = .inl (.int, 24, .inl (fun _ => 0))) (h_15 : F 15 = .inl (.int, 800, .inl (fun _ => 0))) (h_16 : F 16 = .inr (2, [.ref 17, .ref 22, .ref 23, .ref 24, .int 0, .int 0])) (h_17 : F 17 = .inr (4, [.int 0, .ref 18, .ref 19, .ref 20, .ref 21, .int 0])) (h_18 : F 18 = .inl (.int, 24, .inl (fun _ => 0))) (h_19 : F 19 = .inl (.int, 24, .inl (fun _ => 0))) (h_20 : F 20 = .inl (.int, 24, .inl (fun _ => 0))) (h_21 : F 21 = .inl (.int, 800, .inl (fun _ => 0))) (h_22 : F 22 = .inl (.int, 800, .inl (fun _ => 0))) (h_23 : F 23 = .inl (.int, 800, .inl (fun _ => 0))) (h_24 : F 24 = .inl (.int, 800, .inl (fun _ => 0))) (h_25 : F 25 = .inr (6, [.ref 1, .ref 11, .ref 26, .ref 39, .ref 48, .int 0])) (h_26 : F 26 = .inr (0, [.int 0, .ref 27, .ref 28, .ref 29, .ref 30, .ref 31, .ref 32, .ref 33, .ref 34, .ref 35, .ref 36, .ref 37, .ref 38])) (h_27 : F 27 = .inl (.boolean, 12, .inl (fun _ => 0))) (h_28 : F 28 = .inl (.int, 12, .inl (fun _ => 0))) (h_29 : F 29 = .inl (.int, 12, .inl (fun _ => 0))) (h_30 : F 30 = .inl (.int, 12, .inl (fun _ => 0))) (h_31 : F 31 = .inl (.int, 12, .inl (fun _ => 0))) (h_32 : F 32 = .inl (.int, 12, .inl (fun _ => 0))) (h_33 : F 33 = .inl (.int, 12, .inl (fun _ => 0))) (h_34 : F 34 = .inl (.int, 12, .inl (fun _ => 0))) (h_35 : F 35 = .inl (.int, 12, .inl (fun _ => 0))) (h_36 : F 36 = .inl (.int, 12, .inl (fun _ => 0))) (h_37 : F 37 = .inl (.int, 12, .inl (fun _ => 0))) (h_38 : F 38 = .inl (.int, 12, .inl (fun _ => 0))) (h_39 : F 39 = .inr (1, [.int 0, .ref 40, .ref 41, .ref 42, .ref 43, .ref 44, .ref 45, .ref 46, .ref 47])) (h_40 : F 40 = .inl (.int, 80, .inl (fun _ => 0))) (h_41 : F 41 = .inl (.int, 80, .inl (fun _ => 0))) (h_42 : F 42 = .inl (.int, 80, .inl (fun _ => 0))) (h_43 : F 43 = .inl (.int, 80, .inl (fun _ => 0))) (h_44 : F 44 = .inl (.int, 80, .inl (fun _ => 0))) (h_45 : F 45 = .inl (.int, 80, .inl (fun _ => 0))) (h_46 : F 46 = .inl (.int, 80, .inl (fun _ => 0))) (h_47 : F 47 = .inl (.int, 80, .inl (fun _ => 0))) (h_48 : F 48 = .inl (.int, 32, .inl (fun _ => 0))) (h_49 : F 49 = .inr (6, [.ref 1, .ref 11, .ref 50, .ref 63, .ref 72, .int 0])) (h_50 : F 50 = .inr (0, [.int 0, .ref 51, .ref 52, .ref 53, .ref 54, .ref 55, .ref 56, .ref 57, .ref 58, .ref 59, .ref 60, .ref 61, .ref 62])) (h_51 : F 51 = .inl (.boolean, 12, .inl (fun _ => 0))) (h_52 : F 52 = .inl (.int, 12, .inl (fun _ => 0))) (h_53 : F 53 = .inl (.int, 12, .inl (fun _ => 0))) (h_54 : F 54 = .inl (.int, 12, .inl (fun _ => 0))) (h_55 : F 55 = .inl (.int, 12, .inl (fun _ => 0))) (h_56 : F 56 = .inl (.int, 12, .inl (fun _ => 0))) (h_57 : F 57 = .inl (.int, 12, .inl (fun _ => 0))) (h_58 : F 58 = .inl (.int, 12, .inl (fun _ => 0))) (h_59 : F 59 = .inl (.int, 12, .inl (fun _ => 0))) (h_60 : F 60 = .inl (.int, 12, .inl (fun _ => 0))) (h_61 : F 61 = .inl (.int, 12, .inl (fun _ => 0))) (h_62 : F 62 = .inl (.int, 12, .inl (fun _ => 0))) (h_63 : F 63 = .inr (1, [.int 0, .ref 64, .ref 65, .ref 66, .ref 67, .ref 68, .ref 69, .ref 70, .ref 71])) (h_64 : F 64 = .inl (.int, 80, .inl (fun _ => 0))) (h_65 : F 65 = .inl (.int, 80, .inl (fun _ => 0))) (h_66 : F 66 = .inl (.int, 80, .inl (fun _ => 0))) (h_67 : F 67 = .inl (.int, 80, .inl (fun _ => 0))) (h_68 : F 68 = .inl (.int, 80, .inl (fun _ => 0))) (h_69 : F 69 = .inl (.int, 80, .inl (fun _ => 0))) (h_70 : F 70 = .inl (.int, 80, .inl (fun _ => 0))) (h_71 : F 71 = .inl (.int, 80, .inl (fun _ => 0))) (h_72 : F 72 = .inl (.int, 32, .inl (fun _ => 0))) (h_73 : F 73 = .inr (6, [.ref 1, .ref 11, .ref 74, .ref 87, .ref 96, .int 0])) (h_74 : F 74 = .inr (0, [.int 0, .ref 75, .ref 76, .ref 77, .ref 78, .ref 79, .ref 80, .ref 81, .ref 82, .ref 83, .ref 84, .ref 85, .ref 86])) (h_75 : F 75 = .inl (.boolean, 12, .inl (fun _ => 0))) (h_76 : F 76 = .inl (.int, 12, .inl (fun _ => 0))) (h_77 : F 77 = .inl (.int, 12, .inl (fun _ => 0))) (h_78 : F 78 = .inl (.int, 12, .inl (fun _ => 0))) (h_79 : F 79 = .inl (.int, 12, .inl (fun _ => 0))) (h_80 : F 80 = .inl (.int, 12, .inl (fun _ => 0))) (h_81 : F 81 = .inl (.int, 12, .inl (fun _ => 0))) (h_82 : F 82 = .inl (.int, 12, .inl (fun _ => 0))) (h_83 : F 83 = .inl (.int, 12, .inl (fun _ => 0))) (h_84 : F 84 = .inl (.int, 12, .inl (fun _ => 0))) (h_85 : F 85 = .inl (.int, 12, .inl (fun _ => 0))) (h_86 : F 86 = .inl (.int, 12, .inl (fun _ => 0))) (h_87 : F 87 = .inr (1, [.int 0, .ref 88, .ref 89, .ref 90, .ref 91, .ref 92, .ref 93, .ref 94, .ref 95])) (h_88 : F 88 = .inl (.int, 80, .inl (fun _ => 0))) (h_89 : F 89 = .inl (.int, 80, .inl (fun _ => 0))) (h_90 : F 90 = .inl (.int, 80, .inl (fun _ => 0))) (h_91 : F 91 = .inl (.int, 80, .inl (fun _ => 0))) (h_92 : F 92 = .inl (.int, 80, .inl (fun _ => 0))) (h_93 : F 93 = .inl (.int, 80, .inl (fun _ => 0))) (h_94 : F 94 = .inl (.int, 80, .inl (fun _ => 0))) (h_95 : F 95 = .inl (.int, 80, .inl (fun _ => 0))) (h_96 : F 96 = .inl (.int, 32, .inl (fun _ => 0))) (hQ : ∀ f, (∀ j, j < 8 → f j = -1) → Q [] ((97, s + 7601), 97, va_up F 7 (.inl (.int, 8, .inl f)))) : Call 75 [.ref 0] (oS 1 s F 0 7 [.null, .null, .null, .null, .null, .null, .null, .int 0]) Q := by
  show WP 75 0 0 (.ref 0 :: []) [] (oS 1 s F 0 7 [.null, .null, .null, .null, .null, .null, .null, .int 0]) Q
  refine mk_oin (idx := 1) (show decode (mCode 75) 0 = .ok (.aload_n 0, 1) by decide +kernel) (show decode (mCode 75) 1 = .ok (.invokespecial 1, 3) by decide +kernel) rfl rfl (by decide) ?_
  refine (w_aload_n (v := 0) (show decode (mCode 75) 4 = .ok (.aload_n 0, 1) by decide +kernel) rfl).2 ?_
  refine mk_nw (ci' := 3) (N := 9) (ds := [.int 0, .null, .null, .int 0, .null, .null, .null, .null, .null]) (show decode (mCode 75) 5 = .ok (.new 7, 3) by decide +kernel) rfl rfl rfl rfl (by decide) ?_
  refine (w_dupR (show decode (mCode 75) 8 = .ok (.dup, 1) by decide +kernel) (by decide)).2 ?_
  refine (w_callI (k' := 33) (as := [.ref 1]) (r := [.ref 1, .ref 0]) (show decode (mCode 75) 9 = .ok (.invokespecial 9, 3) by decide +kernel) rfl rfl rfl (by decide) rfl rfl rfl (by decide) (by show rk 33 0 < rk 75 0; decide +kernel)).2 ?_
  refine ini_1 (vu_h (by decide) h_1) (vu_h (by decide) h_2) (vu_h (by decide) h_3) (vu_h (by decide) h_4) (vu_h (by decide) h_5) (vu_h (by decide) h_6) (vu_h (by decide) h_7) (vu_h (by decide) h_8) (fun f hf => ⟨by simp, ?_⟩)
  rw [vu_com (show (0 : Nat) ≠ 7 by decide)]
  have g_9 := vu_h (x := .inl (.int, 8, .inl f)) (show (9 : Nat) ≠ 7 by decide) h_9
  have g_10 := vu_h (x := .inl (.int, 8, .inl f)) (show (10 : Nat) ≠ 7 by decide) h_10
  have g_11 := vu_h (x := .inl (.int, 8, .inl f)) (show (11 : Nat) ≠ 7 by decide) h_11
  have g_12 := vu_h (x := .inl (.int, 8, .inl f)) (show (12 : Nat) ≠ 7 by decide) h_12
  have g_13 := vu_h (x := .inl (.int, 8, .inl f)) (show (13 : Nat) ≠ 7 by decide) h_13
  have g_14 := vu_h (x := .inl (.int, 8, .inl f)) (show (14 : Nat) ≠ 7 by decide) h_14
  have g_15 := vu_h (x := .inl (.int, 8, .inl f)) (show (15 : Nat) ≠ 7 by decide) h_15
  have g_16 := vu_h (x := .inl (.int, 8, .inl f)) (show (16 : Nat) ≠ 7 by decide) h_16
  have g_17 := vu_h (x := .inl (.int, 8, .inl f)) (show (17 : Nat) ≠ 7 by decide) h_17
  have g_18 := vu_h (x := .inl (.int, 8, .inl f)) (show (18 : Nat) ≠ 7 by decide) h_18
  have g_19 := vu_h (x := .inl (.int, 8, .inl f)) (show (19 : Nat) ≠ 7 by decide) h_19
  have g_20 := vu_h (x := .inl (.int, 8, .inl f)) (show (20 : Nat) ≠ 7 by decide) h_20
  have g_21 := vu_h (x := .inl (.int, 8, .inl f)) (show (21 : Nat) ≠ 7 by decide) h_21
  have g_22 := vu_h (x := .inl (.int, 8, .inl f)) (show (22 : Nat) ≠ 7 by decide) h_22
  have g_23 := vu_h (x := .inl (.int, 8, .inl f)) (show (23 : Nat) ≠ 7 by decide) h_23
  have g_24 := vu_h (x := .inl (.int, 8, .inl f)) (show (24 : Nat) ≠ 7 by decide) h_24
  have g_25 := vu_h (x := .inl (.int, 8, .inl f)) (show (25 : Nat) ≠ 7 by decide) h_25
  have g_26 := vu_h (x := .inl (.int, 8, .inl f)) (show (26 : Nat) ≠ 7 by decide) h_26
  have g_27 := vu_h (x := .inl (.int, 8, .inl f)) (show (27 : Nat) ≠ 7 by decide) h_27
  have g_28 := vu_h (x := .inl (.int, 8, .inl f)) (show (28 : Nat) ≠ 7 by decide) h_28
  have g_29 := vu_h (x := .inl (.int, 8, .inl f)) (show (29 : Nat) ≠ 7 by decide) h_29
  have g_30 := vu_h (x := .inl (.int, 8, .inl f)) (show (30 : Nat) ≠ 7 by decide) h_30
  have g_31 := vu_h (x := .inl (.int, 8, .inl f)) (show (31 : Nat) ≠ 7 by decide) h_31
  have g_32 := vu_h (x := .inl (.int, 8, .inl f)) (show (32 : Nat) ≠ 7 by decide) h_32
  have g_33 := vu_h (x := .inl (.int, 8, .inl f)) (show (33 : Nat) ≠ 7 by decide) h_33
  have g_34 := vu_h (x := .inl (.int, 8, .inl f)) (show (34 : Nat) ≠ 7 by decide) h_34
  have g_35 := vu_h (x := .inl (.int, 8, .inl f)) (show (35 : Nat) ≠ 7 by decide) h_35
  have g_36 := vu_h (x := .inl (.int, 8, .inl f)) (show (36 : Nat) ≠ 7 by decide) h_36
  have g_37 := vu_h (x := .inl (.int, 8, .inl f)) (show (37 : Nat) ≠ 7 by decide) h_37
  have g_38 := vu_h (x := .inl (.int, 8, .inl f)) (show (38 : Nat) ≠ 7 by decide) h_38
  have g_39 := vu_h (x := .inl (.int, 8, .inl f)) (show (39 : Nat) ≠ 7 by decide) h_39
  have g_40 := vu_h (x := .inl (.int, 8, .inl f)) (show (40 : Nat) ≠ 7 by decide) h_40
  have g_41 := vu_h (x := .inl (.int, 8, .inl f)) (show (41 : Nat) ≠ 7 by decide) h_41
  have g_42 := vu_h (x := .inl (.int, 8, .inl f)) (show (42 : Nat) ≠ 7 by decide) h_42
  have g_43 := vu_h (x := .inl (.int, 8, .inl f)) (show (43 : Nat) ≠ 7 by decide) h_43
  have g_44 := vu_h (x := .inl (.int, 8, .inl f)) (show (44 : Nat) ≠ 7 by decide) h_44
  have g_45 := vu_h (x := .inl (.int, 8, .inl f)) (show (45 : Nat) ≠ 7 by decide) h_45
  have g_46 := vu_h (x := .inl (.int, 8, .inl f)) (show (46 : Nat) ≠ 7 by decide) h_46
  have g_47 := vu_h (x := .inl (.int, 8, .inl f)) (show (47 : Nat) ≠ 7 by decide) h_47
  have g_48 := vu_h (x := .inl (.int, 8, .inl f)) (show (48 : Nat) ≠ 7 by decide) h_48
  have g_49 := vu_h (x := .inl (.int, 8, .inl f)) (show (49 : Nat) ≠ 7 by decide) h_49
  have g_50 := vu_h (x := .inl (.int, 8, .inl f)) (show (50 : Nat) ≠ 7 by decide) h_50
  have g_51 := vu_h (x := .inl (.int, 8, .inl f)) (show (51 : Nat) ≠ 7 by decide) h_51
  have g_52 := vu_h (x := .inl (.int, 8, .inl f)) (show (52 : Nat) ≠ 7 by decide) h_52
  have g_53 := vu_h (x := .inl (.int, 8, .inl f)) (show (53 : Nat) ≠ 7 by decide) h_53
  have g_54 := vu_h (x := .inl (.int, 8, .inl f)) (show (54 : Nat) ≠ 7 by decide) h_54
  have g_55 := vu_h (x := .inl (.int, 8, .inl f)) (show (55 : Nat) ≠ 7 by decide) h_55
  have g_56 := vu_h (x := .inl (.int, 8, .inl f)) (show (56 : Nat) ≠ 7 by decide) h_56
  have g_57 := vu_h (x := .inl (.int, 8, .inl f)) (show (57 : Nat) ≠ 7 by decide) h_57
  have g_58 := vu_h (x := .inl (.int, 8, .inl f)) (show (58 : Nat) ≠ 7 by decide) h_58
  have g_59 := vu_h (x := .inl (.int, 8, .inl f)) (show (59 : Nat) ≠ 7 by decide) h_59
  have g_60 := vu_h (x := .inl (.int, 8, .inl f)) (show (60 : Nat) ≠ 7 by decide) h_60
  have g_61 := vu_h (x := .inl (.int, 8, .inl f)) (show (61 : Nat) ≠ 7 by decide) h_61
  have g_62 := vu_h (x := .inl (.int, 8, .inl f)) (show (62 : Nat) ≠ 7 by decide) h_62
  have g_63 := vu_h (x := .inl (.int, 8, .inl f)) (show (63 : Nat) ≠ 7 by decide) h_63
  have g_64 := vu_h (x := .inl (.int, 8, .inl f)) (show (64 : Nat) ≠ 7 by decide) h_64
  have g_65 := vu_h (x := .inl (.int, 8, .inl f)) (show (65 : Nat) ≠ 7 by decide) h_65
  have g_66 := vu_h (x := .inl (.int, 8, .inl f)) (show (66 : Nat) ≠ 7 by decide) h_66
  have g_67 := vu_h (x := .inl (.int, 8, .inl f)) (show (67 : Nat) ≠ 7 by decide) h_67
  have g_68 := vu_h (x := .inl (.int, 8, .inl f)) (show (68 : Nat) ≠ 7 by decide) h_68
  have g_69 := vu_h (x := .inl (.int, 8, .inl f)) (show (69 : Nat) ≠ 7 by decide) h_69
  have g_70 := vu_h (x := .inl (.int, 8, .inl f)) (show (70 : Nat) ≠ 7 by decide) h_70
  have g_71 := vu_h (x := .inl (.int, 8, .inl f)) (show (71 : Nat) ≠ 7 by decide) h_71
  have g_72 := vu_h (x := .inl (.int, 8, .inl f)) (show (72 : Nat) ≠ 7 by decide) h_72
  have g_73 := vu_h (x := .inl (.int, 8, .inl f)) (show (73 : Nat) ≠ 7 by decide) h_73
  have g_74 := vu_h (x := .inl (.int, 8, .inl f)) (show (74 : Nat) ≠ 7 by decide) h_74
  have g_75 := vu_h (x := .inl (.int, 8, .inl f)) (show (75 : Nat) ≠ 7 by decide) h_75
  have g_76 := vu_h (x := .inl (.int, 8, .inl f)) (show (76 : Nat) ≠ 7 by decide) h_76
  have g_77 := vu_h (x := .inl (.int, 8, .inl f)) (show (77 : Nat) ≠ 7 by decide) h_77
  have g_78 := vu_h (x := .inl (.int, 8, .inl f)) (show (78 : Nat) ≠ 7 by decide) h_78
  have g_79 := vu_h (x := .inl (.int, 8, .inl f)) (show (79 : Nat) ≠ 7 by decide) h_79
  have g_80 := vu_h (x := .inl (.int, 8, .inl f)) (show (80 : Nat) ≠ 7 by decide) h_80
  have g_81 := vu_h (x := .inl (.int, 8, .inl f)) (show (81 : Nat) ≠ 7 by decide) h_81
  have g_82 := vu_h (x := .inl (.int, 8, .inl f)) (show (82 : Nat) ≠ 7 by decide) h_82
  have g_83 := vu_h (x := .inl (.int, 8, .inl f)) (show (83 : Nat) ≠ 7 by decide) h_83
  have g_84 := vu_h (x := .inl (.int, 8, .inl f)) (show (84 : Nat) ≠ 7 by decide) h_84
  have g_85 := vu_h (x := .inl (.int, 8, .inl f)) (show (85 : Nat) ≠ 7 by decide) h_85
  have g_86 := vu_h (x := .inl (.int, 8, .inl f)) (show (86 : Nat) ≠ 7 by decide) h_86
  have g_87 := vu_h (x := .inl (.int, 8, .inl f)) (show (87 : Nat) ≠ 7 by decide) h_87
  have g_88 := vu_h (x := .inl (.int, 8, .inl f)) (show (88 : Nat) ≠ 7 by decide) h_88
  have g_89 := vu_h (x := .inl (.int, 8, .inl f)) (show (89 : Nat) ≠ 7 by decide) h_89
  have g_90 := vu_h (x := .inl (.int, 8, .inl f)) (show (90 : Nat) ≠ 7 by decide) h_90
  have g_91 := vu_h (x := .inl (.int, 8, .inl f)) (show (91 : Nat) ≠ 7 by decide) h_91
  have g_92 := vu_h (x := .inl (.int, 8, .inl f)) (show (92 : Nat) ≠ 7 by decide) h_92
  have g_93 := vu_h (x := .inl (.int, 8, .inl f)) (show (93 : Nat) ≠ 7 by decide) h_93
  have g_94 := vu_h (x := .inl (.int, 8, .inl f)) (show (94 : Nat) ≠ 7 by decide) h_94
  have g_95 := vu_h (x := .inl (.int, 8, .inl f)) (show (95 : Nat) ≠ 7 by decide) h_95
  have g_96 := vu_h (x := .inl (.int, 8, .inl f)) (show (96 : Nat) ≠ 7 by decide) h_96
  have g_0 := vu_h (x := .inl (.int, 8, .inl f)) (show (0 : Nat) ≠ 7 by decide) h_0
  replace hQ := hQ f hf
  generalize va_up F 7 (.inl (.int, 8, .inl f)) = G at *
  show WP 75 0 12 _ (.ref 1 :: .ref 0 :: []) (oS 9 (s + 105) G 0 7 ([.null, .null, .null, .null, .null, .null, .null, .int 0])) Q
  refine mk_put (j := 0) (show decode (mCode 75) 12 = .ok (.putfield 10, 3) by decide +kernel) rfl (by decide) (by decide) (by decide +kernel) (by decide +kernel) ?_
  refine (w_aload_n (v := 0) (show decode (mCode 75) 15 = .ok (.aload_n 0, 1) by decide +kernel) rfl).2 ?_
  refine mk_nw (ci' := 5) (N := 2) (ds := [.null, .int 0]) (show decode (mCode 75) 16 = .ok (.new 16, 3) by decide +kernel) rfl rfl rfl rfl (by decide) ?_
  refine (w_dupR (show decode (mCode 75) 19 = .ok (.dup, 1) by decide +kernel) (by decide)).2 ?_
  refine (w_callI (k' := 53) (as := [.ref 9]) (r := [.ref 9, .ref 0]) (show decode (mCode 75) 20 = .ok (.invokespecial 18, 3) by decide +kernel) rfl rfl rfl (by decide) rfl rfl rfl (by decide) (by show rk 53 0 < rk 75 0; decide +kernel)).2 ?_
  refine ini_9 (vu_h (by decide) g_9) (vu_h (by decide) g_10) ⟨by simp, ?_⟩
  show WP 75 0 23 _ (.ref 9 :: .ref 0 :: []) (oS 11 (s + 907) G 0 7 (([.null, .null, .null, .null, .null, .null, .null, .int 0]).set 0 (.ref 1))) Q
  refine mk_put (j := 1) (show decode (mCode 75) 23 = .ok (.putfield 19, 3) by decide +kernel) rfl (by decide) (by decide) (by decide +kernel) (by decide +kernel) ?_
  refine (w_aload_n (v := 0) (show decode (mCode 75) 26 = .ok (.aload_n 0, 1) by decide +kernel) rfl).2 ?_
  refine mk_nw (ci' := 4) (N := 6) (ds := [.int 0, .null, .null, .null, .null, .int 0]) (show decode (mCode 75) 27 = .ok (.new 23, 3) by decide +kernel) rfl rfl rfl rfl (by decide) ?_
  refine (w_dupR (show decode (mCode 75) 30 = .ok (.dup, 1) by decide +kernel) (by decide)).2 ?_
  refine (w_callI (k' := 44) (as := [.ref 11]) (r := [.ref 11, .ref 0]) (show decode (mCode 75) 31 = .ok (.invokespecial 25, 3) by decide +kernel) rfl rfl rfl (by decide) rfl rfl rfl (by decide) (by show rk 44 0 < rk 75 0; decide +kernel)).2 ?_
  refine ini_11 (vu_h (by decide) g_11) (vu_h (by decide) g_12) (vu_h (by decide) g_13) (vu_h (by decide) g_14) (vu_h (by decide) g_15) ⟨by simp, ?_⟩
  show WP 75 0 34 _ (.ref 11 :: .ref 0 :: []) (oS 16 (s + 1785) G 0 7 ((([.null, .null, .null, .null, .null, .null, .null, .int 0]).set 0 (.ref 1)).set 1 (.ref 9))) Q
  refine mk_put (j := 2) (show decode (mCode 75) 34 = .ok (.putfield 26, 3) by decide +kernel) rfl (by decide) (by decide) (by decide +kernel) (by decide +kernel) ?_
  refine (w_aload_n (v := 0) (show decode (mCode 75) 37 = .ok (.aload_n 0, 1) by decide +kernel) rfl).2 ?_
  refine mk_nw (ci' := 2) (N := 6) (ds := [.null, .null, .null, .null, .int 0, .int 0]) (show decode (mCode 75) 38 = .ok (.new 30, 3) by decide +kernel) rfl rfl rfl rfl (by decide) ?_
  refine (w_dupR (show decode (mCode 75) 41 = .ok (.dup, 1) by decide +kernel) (by decide)).2 ?_
  refine (w_callI (k' := 20) (as := [.ref 16]) (r := [.ref 16, .ref 0]) (show decode (mCode 75) 42 = .ok (.invokespecial 32, 3) by decide +kernel) rfl rfl rfl (by decide) rfl rfl rfl (by decide) (by show rk 20 0 < rk 75 0; decide +kernel)).2 ?_
  refine ini_16 (vu_h (by decide) g_16) (vu_h (by decide) g_17) (vu_h (by decide) g_18) (vu_h (by decide) g_19) (vu_h (by decide) g_20) (vu_h (by decide) g_21) (vu_h (by decide) g_22) (vu_h (by decide) g_23) (vu_h (by decide) g_24) ⟨by simp, ?_⟩
  show WP 75 0 45 _ (.ref 16 :: .ref 0 :: []) (oS 25 (s + 5069) G 0 7 (((([.null, .null, .null, .null, .null, .null, .null, .int 0]).set 0 (.ref 1)).set 1 (.ref 9)).set 2 (.ref 11))) Q
  refine mk_put (j := 3) (show decode (mCode 75) 45 = .ok (.putfield 33, 3) by decide +kernel) rfl (by decide) (by decide) (by decide +kernel) (by decide +kernel) ?_
  refine (w_aload_n (v := 0) (show decode (mCode 75) 48 = .ok (.aload_n 0, 1) by decide +kernel) rfl).2 ?_
  refine mk_nw (ci' := 6) (N := 6) (ds := [.null, .null, .null, .null, .null, .int 0]) (show decode (mCode 75) 49 = .ok (.new 37, 3) by decide +kernel) rfl rfl rfl rfl (by decide) ?_
  refine (w_dupR (show decode (mCode 75) 52 = .ok (.dup, 1) by decide +kernel) (by decide)).2 ?_
  refine (w_aload_n (v := 0) (show decode (mCode 75) 53 = .ok (.aload_n 0, 1) by decide +kernel) rfl).2 ?_
  refine (mk_get (a := 0) (c0 := 26) (fs := (((([.null, .null, .null, .null, .null, .null, .null, .int 0]).set 0 (.ref 1)).set 1 (.ref 9)).set 2 (.ref 11)).set 3 (.ref 16)) (show decode (mCode 75) 54 = .ok (.getfield 10, 3) by decide +kernel) (by decide) rfl rfl rfl (vu_h (show (0 : Nat) ≠ 25 by decide) vu_get) (by decide)).2 ?_
  refine (w_aload_n (v := 0) (show decode (mCode 75) 57 = .ok (.aload_n 0, 1) by decide +kernel) rfl).2 ?_
  refine (mk_get (a := 0) (c0 := 26) (fs := (((([.null, .null, .null, .null, .null, .null, .null, .int 0]).set 0 (.ref 1)).set 1 (.ref 9)).set 2 (.ref 11)).set 3 (.ref 16)) (show decode (mCode 75) 58 = .ok (.getfield 26, 3) by decide +kernel) (by decide) rfl rfl rfl (vu_h (show (0 : Nat) ≠ 25 by decide) vu_get) (by decide)).2 ?_
  refine (w_callI (k' := 58) (as := [.ref 25, .ref 1, .ref 11]) (r := [.ref 25, .ref 0]) (show decode (mCode 75) 61 = .ok (.invokespecial 39, 3) by decide +kernel) rfl rfl rfl (by decide) rfl rfl rfl (by decide) (by show rk 58 0 < rk 75 0; decide +kernel)).2 ?_
  refine ini_25 (vu_h (by decide) g_25) (vu_h (by decide) g_26) (vu_h (by decide) g_27) (vu_h (by decide) g_28) (vu_h (by decide) g_29) (vu_h (by decide) g_30) (vu_h (by decide) g_31) (vu_h (by decide) g_32) (vu_h (by decide) g_33) (vu_h (by decide) g_34) (vu_h (by decide) g_35) (vu_h (by decide) g_36) (vu_h (by decide) g_37) (vu_h (by decide) g_38) (vu_h (by decide) g_39) (vu_h (by decide) g_40) (vu_h (by decide) g_41) (vu_h (by decide) g_42) (vu_h (by decide) g_43) (vu_h (by decide) g_44) (vu_h (by decide) g_45) (vu_h (by decide) g_46) (vu_h (by decide) g_47) (vu_h (by decide) g_48) ⟨by simp, ?_⟩
  show WP 75 0 64 _ (.ref 25 :: .ref 0 :: []) (oS 49 (s + 5913) G 0 7 ((((([.null, .null, .null, .null, .null, .null, .null, .int 0]).set 0 (.ref 1)).set 1 (.ref 9)).set 2 (.ref 11)).set 3 (.ref 16))) Q
  refine mk_put (j := 4) (show decode (mCode 75) 64 = .ok (.putfield 42, 3) by decide +kernel) rfl (by decide) (by decide) (by decide +kernel) (by decide +kernel) ?_
  refine (w_aload_n (v := 0) (show decode (mCode 75) 67 = .ok (.aload_n 0, 1) by decide +kernel) rfl).2 ?_
  refine mk_nw (ci' := 6) (N := 6) (ds := [.null, .null, .null, .null, .null, .int 0]) (show decode (mCode 75) 68 = .ok (.new 37, 3) by decide +kernel) rfl rfl rfl rfl (by decide) ?_
  refine (w_dupR (show decode (mCode 75) 71 = .ok (.dup, 1) by decide +kernel) (by decide)).2 ?_
  refine (w_aload_n (v := 0) (show decode (mCode 75) 72 = .ok (.aload_n 0, 1) by decide +kernel) rfl).2 ?_
  refine (mk_get (a := 0) (c0 := 50) (fs := ((((([.null, .null, .null, .null, .null, .null, .null, .int 0]).set 0 (.ref 1)).set 1 (.ref 9)).set 2 (.ref 11)).set 3 (.ref 16)).set 4 (.ref 25)) (show decode (mCode 75) 73 = .ok (.getfield 10, 3) by decide +kernel) (by decide) rfl rfl rfl (vu_h (show (0 : Nat) ≠ 49 by decide) vu_get) (by decide)).2 ?_
  refine (w_aload_n (v := 0) (show decode (mCode 75) 76 = .ok (.aload_n 0, 1) by decide +kernel) rfl).2 ?_
  refine (mk_get (a := 0) (c0 := 50) (fs := ((((([.null, .null, .null, .null, .null, .null, .null, .int 0]).set 0 (.ref 1)).set 1 (.ref 9)).set 2 (.ref 11)).set 3 (.ref 16)).set 4 (.ref 25)) (show decode (mCode 75) 77 = .ok (.getfield 26, 3) by decide +kernel) (by decide) rfl rfl rfl (vu_h (show (0 : Nat) ≠ 49 by decide) vu_get) (by decide)).2 ?_
  refine (w_callI (k' := 58) (as := [.ref 49, .ref 1, .ref 11]) (r := [.ref 49, .ref 0]) (show decode (mCode 75) 80 = .ok (.invokespecial 39, 3) by decide +kernel) rfl rfl rfl (by decide) rfl rfl rfl (by decide) (by show rk 58 0 < rk 75 0; decide +kernel)).2 ?_
  refine ini_49 (vu_h (by decide) g_49) (vu_h (by decide) g_50) (vu_h (by decide) g_51) (vu_h (by decide) g_52) (vu_h (by decide) g_53) (vu_h (by decide) g_54) (vu_h (by decide) g_55) (vu_h (by decide) g_56) (vu_h (by decide) g_57) (vu_h (by decide) g_58) (vu_h (by decide) g_59) (vu_h (by decide) g_60) (vu_h (by decide) g_61) (vu_h (by decide) g_62) (vu_h (by decide) g_63) (vu_h (by decide) g_64) (vu_h (by decide) g_65) (vu_h (by decide) g_66) (vu_h (by decide) g_67) (vu_h (by decide) g_68) (vu_h (by decide) g_69) (vu_h (by decide) g_70) (vu_h (by decide) g_71) (vu_h (by decide) g_72) ⟨by simp, ?_⟩
  show WP 75 0 83 _ (.ref 49 :: .ref 0 :: []) (oS 73 (s + 6757) G 0 7 (((((([.null, .null, .null, .null, .null, .null, .null, .int 0]).set 0 (.ref 1)).set 1 (.ref 9)).set 2 (.ref 11)).set 3 (.ref 16)).set 4 (.ref 25))) Q
  refine mk_put (j := 5) (show decode (mCode 75) 83 = .ok (.putfield 46, 3) by decide +kernel) rfl (by decide) (by decide) (by decide +kernel) (by decide +kernel) ?_
  refine (w_aload_n (v := 0) (show decode (mCode 75) 86 = .ok (.aload_n 0, 1) by decide +kernel) rfl).2 ?_
  refine mk_nw (ci' := 6) (N := 6) (ds := [.null, .null, .null, .null, .null, .int 0]) (show decode (mCode 75) 87 = .ok (.new 37, 3) by decide +kernel) rfl rfl rfl rfl (by decide) ?_
  refine (w_dupR (show decode (mCode 75) 90 = .ok (.dup, 1) by decide +kernel) (by decide)).2 ?_
  refine (w_aload_n (v := 0) (show decode (mCode 75) 91 = .ok (.aload_n 0, 1) by decide +kernel) rfl).2 ?_
  refine (mk_get (a := 0) (c0 := 74) (fs := (((((([.null, .null, .null, .null, .null, .null, .null, .int 0]).set 0 (.ref 1)).set 1 (.ref 9)).set 2 (.ref 11)).set 3 (.ref 16)).set 4 (.ref 25)).set 5 (.ref 49)) (show decode (mCode 75) 92 = .ok (.getfield 10, 3) by decide +kernel) (by decide) rfl rfl rfl (vu_h (show (0 : Nat) ≠ 73 by decide) vu_get) (by decide)).2 ?_
  refine (w_aload_n (v := 0) (show decode (mCode 75) 95 = .ok (.aload_n 0, 1) by decide +kernel) rfl).2 ?_
  refine (mk_get (a := 0) (c0 := 74) (fs := (((((([.null, .null, .null, .null, .null, .null, .null, .int 0]).set 0 (.ref 1)).set 1 (.ref 9)).set 2 (.ref 11)).set 3 (.ref 16)).set 4 (.ref 25)).set 5 (.ref 49)) (show decode (mCode 75) 96 = .ok (.getfield 26, 3) by decide +kernel) (by decide) rfl rfl rfl (vu_h (show (0 : Nat) ≠ 73 by decide) vu_get) (by decide)).2 ?_
  refine (w_callI (k' := 58) (as := [.ref 73, .ref 1, .ref 11]) (r := [.ref 73, .ref 0]) (show decode (mCode 75) 99 = .ok (.invokespecial 39, 3) by decide +kernel) rfl rfl rfl (by decide) rfl rfl rfl (by decide) (by show rk 58 0 < rk 75 0; decide +kernel)).2 ?_
  refine ini_73 (vu_h (by decide) g_73) (vu_h (by decide) g_74) (vu_h (by decide) g_75) (vu_h (by decide) g_76) (vu_h (by decide) g_77) (vu_h (by decide) g_78) (vu_h (by decide) g_79) (vu_h (by decide) g_80) (vu_h (by decide) g_81) (vu_h (by decide) g_82) (vu_h (by decide) g_83) (vu_h (by decide) g_84) (vu_h (by decide) g_85) (vu_h (by decide) g_86) (vu_h (by decide) g_87) (vu_h (by decide) g_88) (vu_h (by decide) g_89) (vu_h (by decide) g_90) (vu_h (by decide) g_91) (vu_h (by decide) g_92) (vu_h (by decide) g_93) (vu_h (by decide) g_94) (vu_h (by decide) g_95) (vu_h (by decide) g_96) ⟨by simp, ?_⟩
  show WP 75 0 102 _ (.ref 73 :: .ref 0 :: []) (oS 97 (s + 7601) G 0 7 ((((((([.null, .null, .null, .null, .null, .null, .null, .int 0]).set 0 (.ref 1)).set 1 (.ref 9)).set 2 (.ref 11)).set 3 (.ref 16)).set 4 (.ref 25)).set 5 (.ref 49))) Q
  refine mk_put (j := 6) (show decode (mCode 75) 102 = .ok (.putfield 49, 3) by decide +kernel) rfl (by decide) (by decide) (by decide +kernel) (by decide +kernel) ?_
  refine mk_int (v := -1) (j := 7) (show decode (mCode 75) 105 = .ok (.aload_n 0, 1) by decide +kernel) (fun st h Q => w_iconst (show decode (mCode 75) 106 = .ok (.iconst (-1), 1) by decide +kernel) rfl) (show decode (mCode 75) 107 = .ok (.putfield 52, 3) by decide +kernel) rfl (by decide) (by decide) (by decide) (by decide +kernel) (by decide +kernel) ?_
  rw [w_ret (show decode (mCode 75) 110 = .ok (.return_, 1) by decide +kernel) rfl]
  have g : Q [] ((97, s + 7601), 97, va_up G 0 (.inr (7, [.ref 1, .ref 9, .ref 11, .ref 16, .ref 25, .ref 49, .ref 73, .int (-1)]))) := by rw [vu_same g_0]; exact hQ
  exact g
