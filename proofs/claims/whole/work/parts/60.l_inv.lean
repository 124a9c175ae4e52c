/-! WHAT HOLDS OF BOTH SIDES BETWEEN CALLS -/
section
variable {u : Nat × Nat} {L : Nat} {xs : Nat → Int32} {X X' : Nat → Nat → Int32} {Z : Nat → Nat → Int64} {K : List Value → AH → Prop} {V W : Nat → Nat → Int32}
/-- loads not yet told wait -/
def FL (V : Nat → Nat → Int32) : Prop := ∀ k, nlF V ≤ k → V 19 k = 0
/-- the tapes hold the same signs -/
def TP (X : Nat → Nat → Int32) : Prop := X 97 2 = X 9 1 ∧ ∃ n, n ≤ 800 ∧ X 9 1 = ic n ∧ ∀ i, i < n → X 98 i = X 10 i ∧ (X 10 i = 10 ∨ (¬ X 10 i < 32 ∧ ¬ 126 < X 10 i))
/-- what the worlds, the road and the rules hold -/
def GW (X V : Nat → Nat → Int32) : Prop := SI X ∧ MR X V ∧ WI (npN X) V ∧ VB V ∧ FL V ∧ ∃ nw, nw ≤ 600 ∧ V 0 5 = ic nw
def GI (X : Nat → Nat → Int32) : Prop := GW X (wz X 25) ∧ X 97 46 = X 0 7 ∧ TP X
theorem tic_keep {a : Nat} (h1 : a ≠ 0) (h6 : a ≠ 6) (h7 : a ≠ 7) (h8 : a ≠ 8) (h9 : a ≠ 9) (h10 : a ≠ 10) (h11 : a ≠ 11) (h12 : a ≠ 12) (h13 : a ≠ 13) (h19 : a ≠ 19) (h20 : a ≠ 20) (h21 : a ≠ 21) (h22 : a ≠ 22) (h23 : a ≠ 23) : ticF X V a = V a := by
  unfold ticF
  have a1 := itr_keep (f := s1F X) (g := fun W : Nat → Nat → Int32 => W a) (fun k W => by
    show s1F X k W a = W a
    unfold s1F
    split
    · exact dri_ne h6 h7 h8 h13 h12 h9 h10 h19 h21
    · rfl)
  have a2 := itr_keep (f := s2F X) (g := fun W : Nat → Nat → Int32 => W a) (fun k W => by
    show s2F X k W a = W a
    unfold s2F
    split
    · exact sta_ne h6 h7 h8 h13
    · rfl)
  have a3 := itr_keep (f := s3F X) (g := fun W : Nat → Nat → Int32 => W a) (fun k W => s3_ne h6 h13 h8 h23 h9 h10 h11 h19 h20 h22)
  exact ((a3 _ _ _).trans (a2 _ _ _)).trans ((a1 _ _ _).trans (sv_a h1))
theorem tic_14 : ticF X V 14 = V 14 := tic_keep (by decide) (by decide) (by decide) (by decide) (by decide) (by decide) (by decide) (by decide) (by decide) (by decide) (by decide) (by decide) (by decide) (by decide)
theorem FL_out {q k : Nat} (hk : k < nlF V) (h : FL V) : FL (outF q k V) := by
  intro j hj
  have e : nlF (outF q k V) = nlF V := by unfold nlF; rw [outF_14]
  rw [e] at hj
  unfold outF
  split
  · rw [cntF_ne (by decide) (by decide), sv_a (by decide), sv_i (by omega)]
    exact h j hj
  · exact h j hj
theorem FL_of (h14 : X' 14 = V 14) (h19 : X' 19 = V 19) (h : FL V) : FL X' := by
  intro j hj
  have e : nlF X' = nlF V := by unfold nlF; rw [h14]
  rw [e] at hj
  rw [h19]
  exact h j hj
theorem FL_let {q : Nat} (h : FL V) : FL (letOutF V q) := (itr_inv (f := outF q) (I := fun W => FL W ∧ nlF W = nlF V) (n := nlF V) (fun k W hk g => ⟨FL_out (by omega) g.1, by rw [← g.2]; unfold nlF; rw [outF_14]⟩) (nlF V) 0 V (by omega) ⟨h, rfl⟩).1
theorem FL_tk {q : Nat} {per : Int32} : ∀ d V, FL V → FL (tkF q per d V) := by
  intro d
  induction d with
  | zero => intro V h; exact h
  | succ d ih =>
    intro V h
    unfold tkF
    rcases nexF_com (V := V) (pl := V 7 q) (up := V 2 q) (per := per) (now := V 0 5) with e | ⟨j, e, hj, hc⟩
    · rw [if_pos e]; exact h
    · split
      · exact h
      · have hj2 : j < 2147483648 := by unfold nlF at hj; have := (V 14 0).toInt_lt; have k : (V 14 0).toNatClampNeg = (V 14 0).toInt.toNat := rfl; omega
        rw [e, ic_clamp hj2]
        refine ih _ (fun k hk => ?_)
        have en : nlF (getF V q j) = nlF V := by unfold nlF; rw [getF_ne (by decide) (by decide) (by decide) (by decide) (by decide) (by decide)]
        rw [en] at hk
        rw [get_19, if_neg (by omega)]
        exact h k hk
theorem FL_tic (h : FL V) : FL (ticF X V) := by
  unfold ticF
  have i1 : ∀ k W, k < nrN V → FL W → FL (s1F X k W) := by
    intro k W _ q
    unfold s1F
    split
    · unfold driF
      have g := FL_let (q := k) (FL_of (X' := staF (sv W 8 k (W 8 k - 1)) k (aheF W k) (W 0 5)) (V := W) (by rw [sta_ne (by decide) (by decide) (by decide) (by decide), sv_a (by decide)]) (by rw [sta_ne (by decide) (by decide) (by decide) (by decide), sv_a (by decide)]) q)
      split
      · exact FL_of (sv_a (by decide)) (sv_a (by decide)) q
      · split
        · exact FL_of (end_ne (by decide) (by decide) (by decide)) (end_ne (by decide) (by decide) (by decide)) g
        · exact g
    · exact q
  have i2 : ∀ k W, k < nrN V → FL W → FL (s2F X k W) := by
    intro k W _ q
    unfold s2F
    split
    · exact FL_of (sta_ne (by decide) (by decide) (by decide) (by decide)) (sta_ne (by decide) (by decide) (by decide) (by decide)) q
    · exact q
  have i3 : ∀ k W, k < nrN V → FL W → FL (s3F X k W) := by
    intro k W _ q
    unfold s3F
    split
    · refine FL_of (lif_ne (by decide) (by decide) (by decide) (by decide)) (lif_ne (by decide) (by decide) (by decide) (by decide)) ?_
      unfold takF
      exact FL_tk _ _ (FL_tk _ _ q)
    · exact q
  exact itr_inv (f := s3F X) (I := FL) (n := nrN V) i3 _ _ _ (by omega) (itr_inv (f := s2F X) (I := FL) (n := nrN V) i2 _ _ _ (by omega) (itr_inv (f := s1F X) (I := FL) (n := nrN V) i1 _ _ _ (by omega) (FL_of (sv_a (by decide)) (sv_a (by decide)) h)))
theorem FL_tcs : ∀ d V, FL V → FL (tcs X d V) := by
  intro d
  induction d with
  | zero => intro V h; exact h
  | succ d ih => intro V h; exact ih _ (FL_tic h)
/-- the class's call, then the model's: the same answer, and all in order behind -/
def Two (u : Nat × Nat) (L : Nat) (xs : Nat → Int32) (k1 k2 : Nat) (as1 as2 : List Value) (X : Nat → Nat → Int32) (Z : Nat → Nat → Int64) : Prop := Call k1 as1 (hX u L xs X Z) (fun rv h1 => ∃ v Y, rv = [.int v] ∧ h1 = hX u L xs Y Z ∧ Call k2 as2 (hX u L xs Y Z) (fun rv2 h2 => rv2 = [.int v] ∧ ∃ X' Z', h2 = hX u L xs X' Z' ∧ Z' 102 = Z 102 ∧ GI X'))
theorem wz_of {X' : Nat → Nat → Int32} {w : Nat} (h : ∀ a, w ≤ a → a < w + 24 → X' a = X a) : wz X' w = wz X w := by
  funext a
  by_cases c : a < 24
  · rw [wz_at c, wz_at c, h _ (by omega) (by omega)]
  · rw [wz_hi (by omega), wz_hi (by omega)]
theorem TP_of {X' : Nat → Nat → Int32} (h2 : X' 97 2 = X 97 2) (h9 : X' 9 = X 9) (h10 : X' 10 = X 10) (h98 : X' 98 = X 98) (h : TP X) : TP X' := by
  unfold TP
  rw [h2, h9, h10, h98]
  exact h
theorem pw_Fw {w : Nat} {a : Nat} (h : a < w ∨ w + 24 ≤ a) : pw X w V a = X a := by
  unfold pw
  rw [if_neg (by omega)]
theorem SI_sm {X' : Nat → Nat → Int32} (lo : Lo X X') (h10 : X' 97 10 = X 97 10) (h28 : X' 97 28 = X 97 28) (h38 : X' 97 38 = X 97 38) (c : ∀ a, (a = 103 ∨ a = 104 ∨ (115 ≤ a ∧ a ≤ 125)) → X' a = X a) (g : SI X) : SI X' ∧ npN X' = npN X := by
  obtain ⟨g1, g2, g3⟩ := g
  refine ⟨⟨by rw [lo_Rd lo]; exact g1, ?_, ?_⟩, lo_np lo⟩
  · unfold RR
    rw [h10, h28, lo 1 (by decide), lo 2 (by decide), lo 3 (by decide), lo 4 (by decide), lo 5 (by decide), lo 6 (by decide), lo 7 (by decide), lo 8 (by decide), c 103 (by omega), c 104 (by omega), c 115 (by omega), c 116 (by omega), c 117 (by omega), c 118 (by omega), c 119 (by omega)]
    exact g2
  · have ek : kdF X' = kdF X := by funext i; unfold kdF; rw [lo 15 (by decide)]
    have en : nuF X' = nuF X := by funext i; unfold nuF; rw [lo 15 (by decide)]
    unfold TX cdOK dpOK at g3 ⊢
    rw [lo_ln lo, lo_st lo, lo_en lo, ek, en, h38, lo 11 (by decide), lo 12 (by decide), lo 13 (by decide), c 120 (by omega), c 121 (by omega), c 122 (by omega), c 123 (by omega), c 124 (by omega), c 125 (by omega)]
    exact g3
theorem MR_hi {X' : Nat → Nat → Int32} (h : ∀ a, 97 ≤ a → X' a = X a) (g : MR X V) : MR X' V := MR_same (by rw [h 97 (by decide)]) (by rw [h 97 (by decide)]) (by rw [h 97 (by decide)]) (fun a h1 h2 => h a (by omega)) (fun i _ => by rw [h 113 (by decide)]) g
theorem op_minutes {n : Int32} (hg : GI X) : Two u L xs 83 140 [.ref 0, .int n] [.ref 97, .int n] X Z := by
  obtain ⟨⟨hs, hm, hw, hb, hf, nw, hn6, hn⟩, h46, htp⟩ := hg
  unfold Two
  by_cases c : mnB (wz X 25) n = true
  · obtain ⟨k, rfl, hk, hnk⟩ := mn_N hn hn6 c
    rw [c_minutes hs.1 hw hn hk hnk]
    refine ⟨_, _, rfl, rfl, ?_⟩
    have hp : ∀ a, a < 25 ∨ 49 ≤ a → (pw X 25 (tcs X k (wz X 25))) a = X a := fun a ha => pw_Fw (by omega)
    have wp : wz (pw X 25 (tcs X k (wz X 25))) 25 = tcs X k (wz X 25) := wz_pw (fun a ha => by rw [tcs_hi ha]; exact wz_hi ha)
    generalize pw X 25 (tcs X k (wz X 25)) = X1 at hp wp
    have lo1 : Lo X X1 := fun a ha => hp a (Or.inl ha.2)
    obtain ⟨s1, np1⟩ := SI_sm lo1 (by rw [hp 97 (by decide)]) (by rw [hp 97 (by decide)]) (by rw [hp 97 (by decide)]) (fun a ha => hp a (by omega)) hs
    refine m_minutes s1 (MR_hi (fun a ha => hp a (by omega)) hm) (by rw [np1]; exact hw) hn hk hnk (fun X2 m2 w2 f2 => ⟨rfl, X2, Z, rfl, rfl, ?_⟩)
    rw [lo_tcs lo1] at m2 w2
    rw [np1] at w2
    have f3 : Frb X1 X2 := Frb_tr Frb_thr (Fr_Frb f2)
    obtain ⟨s2, np2⟩ := Frb_SI f3 s1
    have w25 : wz X2 25 = tcs X k (wz X 25) := by
      rw [← wp]
      exact wz_of (fun a h1 h2 => f3.1 a (by omega) (by omega) (by omega) (by omega) (by omega))
    refine ⟨⟨s2, by rw [w25]; exact m2, by rw [w25, np2, np1]; exact w2, fun i hi => ?_, by rw [w25]; exact FL_tcs k _ hf, nw + k, hnk, by rw [w25]; exact tcs_now k _ hn⟩, ?_, ?_⟩
    · rw [w25, tcs_2]; exact hb i hi
    · rw [f2.2 46 (by decide), sv_i (by decide), hp 97 (by decide), h46, f3.1 0 (by decide) (by decide) (by decide) (by decide) (by decide), hp 0 (by decide)]
    · exact TP_of (by rw [f2.2 2 (by decide), sv_i (by decide), hp 97 (by decide)]) (by rw [f3.1 9 (by decide) (by decide) (by decide) (by decide) (by decide), hp 9 (by decide)]) (by rw [f3.1 10 (by decide) (by decide) (by decide) (by decide) (by decide), hp 10 (by decide)]) (by rw [f3.1 98 (by decide) (by decide) (by decide) (by decide) (by decide), hp 98 (by decide)]) htp
  · have c' : mnB (wz X 25) n = false := by simpa using c
    rw [c_minutes_no c']
    refine ⟨_, _, rfl, rfl, ?_⟩
    rw [m_minutes_no hm c']
    have f1 : Frb X (sv X 97 0 0) := Frb_thr
    obtain ⟨s1, np1⟩ := Frb_SI f1 hs
    have w25 : wz (sv X 97 0 0) 25 = wz X 25 := wz_of (fun a h1 h2 => sv_a (by omega))
    refine ⟨rfl, _, Z, rfl, rfl, ⟨s1, by rw [w25]; exact MR_thr hm, by rw [w25, np1]; exact hw, by rw [w25]; exact hb, by rw [w25]; exact hf, nw, hn6, by rw [w25]; exact hn⟩, ?_, ?_⟩
    · rw [sv_i (by decide), sv_a (by decide)]; exact h46
    · exact TP_of (sv_i (by decide)) (sv_a (by decide)) (sv_a (by decide)) (sv_a (by decide)) htp
/-- only the model's word on exceptions is put anew -/
theorem GI_thr {v : Int32} (hg : GI X) : GI (sv X 97 0 v) := by
  obtain ⟨⟨hs, hm, hw, hb, hf, nw, hn6, hn⟩, h46, htp⟩ := hg
  obtain ⟨s1, np1⟩ := Frb_SI (Frb_thr (v := v)) hs
  have w25 : wz (sv X 97 0 v) 25 = wz X 25 := wz_of (fun a h1 h2 => sv_a (by omega))
  refine ⟨⟨s1, by rw [w25]; exact MR_thr hm, by rw [w25, np1]; exact hw, by rw [w25]; exact hb, by rw [w25]; exact hf, nw, hn6, by rw [w25]; exact hn⟩, ?_, ?_⟩
  · rw [sv_i (by decide), sv_a (by decide)]; exact h46
  · exact TP_of (sv_i (by decide)) (sv_a (by decide)) (sv_a (by decide)) (sv_a (by decide)) htp
theorem op_takes (hg : GI X) : Two u L xs 85 143 [.ref 0] [.ref 97] X Z := by
  have h46 := hg.2.1
  unfold Two
  simp only [en_85, w_85_0, w_85_1, w_85_4, en_143, w_143_0, w_143_1, w_143_2, w_143_5, w_143_6, w_143_9, sv_d]
  refine ⟨_, _, rfl, rfl, ?_⟩
  exact ⟨by rw [sv_i (by decide), h46], _, Z, rfl, rfl, GI_thr hg⟩
theorem op_best {r lo hi : Int32} (hg : GI X) : Two u L xs 84 142 [.ref 0, .int r, .int lo, .int hi] [.ref 97, .int r, .int lo, .int hi] X Z := by
  have hg' := hg
  obtain ⟨⟨hs, hm, hw, hb, hf, nw, hn6, hn⟩, h46, htp⟩ := hg
  unfold Two
  by_cases c : bsB (wz X 25) r lo hi = true
  · obtain ⟨rn, l, h, rfl, rfl, rfl, q1, q2, q3, q4, q5, q6⟩ := bs_N hw.1 hn hn6 c
    refine c_best hs.1 hw hb hn hn6 q1 q2 q3 q4 q5 c (fun X1 T Ve v1 t1 f1 => ⟨_, _, rfl, rfl, ?_⟩)
    have h12 := hw.1.2.1
    -- behind the class's call
    have g : ∀ Y : Nat → Nat → Int32, (∀ a, (1 ≤ a ∧ a < 49) ∨ 97 ≤ a → Y a = X a) → (Y 0 7 = match itr (bstF X rn T) l (h + 1 - l) none with | none => X 0 7 | some (_, le) => ic le) → Call 142 [.ref 97, .int (ic rn), .int (ic l), .int (ic h)] (hX u L xs Y Z) (fun rv2 h2 => rv2 = [.int (bmI (itr (bstF X rn T) l (h + 1 - l) none))] ∧ ∃ X' Z', h2 = hX u L xs X' Z' ∧ Z' 102 = Z 102 ∧ GI X') := by
      intro Y hY h07
      have loY : Lo X Y := fun a ha => hY a (by omega)
      obtain ⟨sY, npY⟩ := SI_sm loY (by rw [hY 97 (by decide)]) (by rw [hY 97 (by decide)]) (by rw [hY 97 (by decide)]) (fun a ha => hY a (by omega)) hs
      have mY : MR Y Ve := EqR_MR v1 (MR_hi (fun a ha => hY a (by omega)) hm)
      have lfi : ∀ d V, fiN Y rn d V = fiN X rn d V := by
        intro d
        induction d with
        | zero => intro V; rfl
        | succ d ih => intro V; unfold fiN; rw [lo_tic loY, ih]
      have lbs : bstF Y rn T = bstF X rn T := by funext m st; unfold bstF; rw [lfi]
      refine m_best (V := Ve) (T := T) sY mY (by rw [npY]; exact EqR_WI v1 hw) (by rw [v1.1]; exact hn) hn6 (by rw [EqR_nr v1]; exact q1) (by rw [EqR_f v1 (by decide) (by decide) (by omega)]; exact q2) q3 q4 q5 q6 (fun k k1 k2 => by rw [lo_tcs loY]; exact t1 k k1 (by omega)) (fun X2 m2 f2 z0 z46 => ?_)
      rw [lbs] at z46 ⊢
      refine ⟨rfl, X2, Z, rfl, rfl, ?_⟩
      obtain ⟨s2, np2⟩ := Frb_SI f2 sY
      have w25 : wz X2 25 = wz X 25 := wz_of (fun a h1 h2 => by rw [f2.1 a (by omega) (by omega) (by omega) (by omega) (by omega)]; exact hY a (by omega))
      have v1' : EqR (wz X 25) Ve := ⟨v1.1.symm, v1.2.1.symm, v1.2.2.1.symm, fun a i hi => (v1.2.2.2 a i hi).symm⟩
      refine ⟨⟨s2, by rw [w25]; exact EqR_MR v1' m2, by rw [w25, np2, npY]; exact hw, by rw [w25]; exact hb, by rw [w25]; exact hf, nw, hn6, by rw [w25]; exact hn⟩, ?_, ?_⟩
      · rw [z46, f2.1 0 (by decide) (by decide) (by decide) (by decide) (by decide), h07, hY 97 (by decide), h46]
        rcases itr (bstF X rn T) l (h + 1 - l) none with _ | ⟨b, le⟩ <;> rfl
      · exact TP_of (by rw [f2.2 2 (by decide) (by decide) (by decide), hY 97 (by decide)]) (by rw [f2.1 9 (by decide) (by decide) (by decide) (by decide) (by decide), hY 9 (by decide)]) (by rw [f2.1 10 (by decide) (by decide) (by decide) (by decide) (by decide), hY 10 (by decide)]) (by rw [f2.1 98 (by decide) (by decide) (by decide) (by decide) (by decide), hY 98 (by decide)]) htp
    cases hst : itr (bstF X rn T) l (h + 1 - l) none with
    | none =>
      rw [hst] at g
      exact g X1 (fun a ha => f1 a (by omega)) (by rw [f1 0 (by decide)])
    | some q =>
      obtain ⟨b, le⟩ := q
      rw [hst] at g
      exact g (sv X1 0 7 (ic le)) (fun a ha => by rw [sv_a (by omega)]; exact f1 a (by omega)) sv_s
  · have c' : bsB (wz X 25) r lo hi = false := by simpa using c
    rw [c_best_no hw.1 c']
    refine ⟨_, _, rfl, rfl, ?_⟩
    rw [m_best_no hm hw.1 c']
    exact ⟨rfl, _, Z, rfl, rfl, GI_thr hg'⟩
end
