/-! THE WORLD'S METHODS: leaving, a minute -/
section
variable {u : Nat × Nat} {L : Nat} {xs : Nat → Int32} {X : Nat → Nat → Int32} {Z : Nat → Nat → Int64} {K : List Value → AH → Prop} {w : Nat} {V V' : Nat → Nat → Int32}
def npN (X : Nat → Nat → Int32) : Nat := (X 1 0).toNatClampNeg
def nsN (X : Nat → Nat → Int32) : Nat := (X 1 3).toNatClampNeg
def lnN (X : Nat → Nat → Int32) : Nat := (X 11 0).toNatClampNeg
def szN (X : Nat → Nat → Int32) : Nat := (X 11 5).toNatClampNeg
def nrN (V : Nat → Nat → Int32) : Nat := (V 1 0).toNatClampNeg
def pN (V : Nat → Nat → Int32) (r : Nat) : Nat := (V 7 r).toNatClampNeg
/-- the road and the rules are in order -/
def RdOK (X : Nat → Nat → Int32) : Prop := X 1 0 = ic (npN X) ∧ 1 ≤ npN X ∧ npN X ≤ 10 ∧ X 1 3 = ic (nsN X) ∧ nsN X ≤ 20 ∧ (∀ s, s + 1 < npN X → 0 < X 2 s) ∧ RuOK X (lnN X) (szN X)
/-- a world's sizes are in order -/
def VOK (V : Nat → Nat → Int32) : Prop := V 1 0 = ic (nrN V) ∧ nrN V ≤ 12 ∧ V 14 0 = ic (nlF V) ∧ nlF V ≤ 80
def VI1 (np : Nat) (V : Nat → Nat → Int32) (k : Nat) : Prop := (V 6 k = 1 ∨ V 6 k = 2 → V 7 k = ic (pN V k) ∧ pN V k < np ∧ (V 2 k = 0 → 1 ≤ pN V k) ∧ (¬ V 2 k = 0 → pN V k + 1 < np)) ∧ (V 6 k = 2 → 0 < V 8 k) ∧ (¬ V 6 k = 2 → V 8 k = 0)
def VI (np : Nat) (V : Nat → Nat → Int32) : Prop := (0 < nrN V → 2 ≤ np) ∧ (∀ k, k < 12 → VI1 np V k) ∧ ∀ k, k < 12 → nrN V ≤ k → V 6 k = 0
def lifF (X V : Nat → Nat → Int32) (r : Nat) : Nat → Nat → Int32 :=
  if ¬ V 13 r < V 0 5 ∨ ¬ (¬ strF V r < 0 ∧ ¬ X 1 0 - 1 ≤ strF V r) ∨ exB (shuB X (strF V r) (V 0 5)) 0 (nsN X) = true then V
  else if frB X V r (strF V r).toNatClampNeg (npN X) (nrN V) = true then
    (if (helF X r (pN V r) (npN X) (nrN V) 0 (lnN X) V).1 = true then (helF X r (pN V r) (npN X) (nrN V) 0 (lnN X) V).2 else leaF (helF X r (pN V r) (npN X) (nrN V) 0 (lnN X) V).2 r (X 2 (strF V r).toNatClampNeg))
  else V
theorem ahe_ok {r np : Nat} (hp : X 1 0 = ic np) (h1 : 1 ≤ np) (h10 : np ≤ 10) (hv : V 7 r = ic (pN V r)) (hh : pN V r < np) : aheF V r ≤ 0 ∨ X 1 0 - 1 ≤ aheF V r ∨ inB (aheF V r) 10 = true := by
  unfold aheF
  by_cases c : V 2 r = 0
  · rw [if_pos c, hv]
    rcases Nat.eq_zero_or_pos (pN V r) with q | q
    · rw [q]
      exact Or.inl (by decide)
    · rw [ic_pred q]
      exact Or.inr (Or.inr (by rw [inB_ic (by omega)]; omega))
  · rw [if_neg c, hv, ic_add1]
    by_cases q : pN V r + 1 < 10
    · exact Or.inr (Or.inr (by rw [inB_ic (by omega)]; exact q))
    · exact Or.inr (Or.inl (by rw [hp, ic_pred h1, ic_le (by omega) (by omega)]; omega))
theorem helF_ne {r p np n a : Nat} (h : a ≠ 23) : ∀ d k V, (helF X r p np n k d V).2 a = V a := by
  intro d
  induction d with
  | zero => intro k V; rfl
  | succ d ih =>
    intro k V
    unfold helF
    repeat' split
    · rw [ih, sk_n h]
    · exact sk_n h
    · rw [ih]
theorem c_leaveIfFree (hw : isWd w) {r : Nat} (hr : r < 12) (hx : RdOK X) (ho : VOK V) (hv : V 7 r = ic (pN V r)) (hh : pN V r < npN X) : Call 68 [.ref (w + 0), .int (ic r)] (hW u L xs X Z w V) K ↔ K [] (hW u L xs X Z w (lifF X V r)) := by
  obtain ⟨hp, h1, h10, hs, h20, hm, hu⟩ := hx
  obtain ⟨hn, h12, hl, h80⟩ := ho
  have e1 : (r < 12) = True := eq_true hr
  unfold lifF
  simp (disch := first | assumption | omega) only [en_68, w_68_0, w_68_1, w_68_4, w_68_5, w_68_8, w_68_9, w_68_10, w_68_13, w_68_16, w_68_17, w_68_18, w_68_19, w_68_22, w_68_25, w_68_26, w_68_29, w_68_30, w_68_33, w_68_36, w_68_37, w_68_40, w_68_41, w_68_42, w_68_45, w_68_48, w_68_51, w_68_53, w_68_54, w_68_55, w_68_58, w_68_61, w_68_62, w_68_63, w_68_66, w_68_69, w_68_70, w_68_73, w_68_74, w_68_75, w_68_78, w_68_81, w_68_82, w_68_83, w_68_86, c_stretchOf hw hr, ne_thr, app1, true_and, ic_clamp, inB_ic, e1, cw_hasStretch hw, cw_isShut hw hs h20, b2i_z]
  by_cases c1 : V 13 r < V 0 5
  · by_cases c2 : ¬ strF V r < 0 ∧ ¬ X 1 0 - 1 ≤ strF V r
    · by_cases c3 : exB (shuB X (strF V r) (V 0 5)) 0 (nsN X) = true
      · simp [c1, c2, c3, nle]
      · obtain ⟨c4, c5⟩ := c2
        obtain ⟨q1, q2⟩ := ic_of c4
        have c5' := c5
        rw [hp, ic_pred h1, q1, ic_le (by omega) q2] at c5'
        have q3 : (strF V r).toNatClampNeg + 1 ≤ npN X := by omega
        have q4 : ((strF V r).toNatClampNeg < 10) = True := eq_true (by omega)
        have c3' : exB (shuB X (strF V r) (V 0 5)) 0 (nsN X) = false := by simpa using c3
        have c6 : ¬ V 0 5 ≤ V 13 r := by rw [nle]; simpa using c1
        have key : WP 68 0 52 [.ref (w + 0), .int (ic r), .int (strF V r)] [] (hW u L xs X Z w V) K ↔ K [] (hW u L xs X Z w (if frB X V r (strF V r).toNatClampNeg (npN X) (nrN V) = true then (if (helF X r (pN V r) (npN X) (nrN V) 0 (lnN X) V).1 = true then (helF X r (pN V r) (npN X) (nrN V) 0 (lnN X) V).2 else leaF (helF X r (pN V r) (npN X) (nrN V) 0 (lnN X) V).2 r (X 2 (strF V r).toNatClampNeg)) else V)) := by
          rw [q1, ic_clamp q2]
          have g1 := fun K => c_isWayFree (u := u) (L := L) (xs := xs) (Z := Z) (K := K) hw hr hn h12 hp h10 q3 (ahe_ok hp h1 h10 hv hh)
          simp (disch := first | assumption | omega) only [en_68, w_68_0, w_68_1, w_68_4, w_68_5, w_68_8, w_68_9, w_68_10, w_68_13, w_68_16, w_68_17, w_68_18, w_68_19, w_68_22, w_68_25, w_68_26, w_68_29, w_68_30, w_68_33, w_68_36, w_68_37, w_68_40, w_68_41, w_68_42, w_68_45, w_68_48, w_68_51, w_68_52, w_68_53, w_68_54, w_68_55, w_68_58, w_68_61, w_68_62, w_68_63, w_68_66, w_68_69, w_68_70, w_68_73, w_68_74, w_68_75, w_68_78, w_68_81, w_68_82, w_68_83, w_68_86, g1, ne_thr, app1, true_and, b2i_z, c_isHeld hw hr hp h10 hv hh hn h12 hu, c_leave hw hr, ne_thr0, app0, ic_clamp, inB_ic, q4]
          by_cases d1 : frB X V r (strF V r).toNatClampNeg (npN X) (nrN V) = true
          · by_cases d2 : (helF X r (pN V r) (npN X) (nrN V) 0 (lnN X) V).1 = true
            · simp [d1, d2]
            · simp [d1, d2]
          · simp [d1]
        simp only [c1, c4, c5, c3', c6, if_false, not_false_eq_true, and_self, not_true_eq_false, false_or, or_self, decide_true, Bool.true_eq_false, Bool.false_eq_true, if_true, key]
    · have c2' : decide (¬ strF V r < 0 ∧ ¬ X 1 0 - 1 ≤ strF V r) = false := by simpa using c2
      have c6 : ¬ V 0 5 ≤ V 13 r := by rw [nle]; simpa using c1
      simp only [c2', c2, c1, c6, decide_false, if_false, if_true, not_true_eq_false, not_false_eq_true, true_or, or_true, false_or]
  · have c6 : V 0 5 ≤ V 13 r := by rw [nle]; exact c1
    simp only [c1, c6, not_false_eq_true, true_or, if_true]
def s1F (X : Nat → Nat → Int32) (r : Nat) (V : Nat → Nat → Int32) : Nat → Nat → Int32 := if V 6 r = 2 then driF X V r else V
def s2F (X : Nat → Nat → Int32) (r : Nat) (V : Nat → Nat → Int32) : Nat → Nat → Int32 := if V 6 r = 0 ∧ ¬ V 0 5 < V 5 r then staF V r (if V 2 r = 0 then X 1 0 - 1 else 0) (V 0 5) else V
def s3F (X : Nat → Nat → Int32) (r : Nat) (V : Nat → Nat → Int32) : Nat → Nat → Int32 := if V 6 r = 1 then lifF X (takF V r) r else V
def ticF (X : Nat → Nat → Int32) (V : Nat → Nat → Int32) : Nat → Nat → Int32 := itr (s3F X) 0 (nrN V) (itr (s2F X) 0 (nrN V) (itr (s1F X) 0 (nrN V) (sv V 0 5 (V 0 5 + 1))))
theorem VOK_of (h1 : V' 1 = V 1) (h2 : V' 14 = V 14) (h : VOK V) : VOK V' := by
  have e1 : nrN V' = nrN V := by unfold nrN; rw [h1]
  have e2 : nlF V' = nlF V := by unfold nlF; rw [h2]
  unfold VOK
  rw [e1, e2, h1, h2]
  exact h
theorem VI1_of {np k : Nat} (h1 : V' 2 k = V 2 k) (h2 : V' 6 k = V 6 k) (h3 : V' 7 k = V 7 k) (h4 : V' 8 k = V 8 k) (h : VI1 np V k) : VI1 np V' k := by
  have e : pN V' k = pN V k := by unfold pN; rw [h3]
  unfold VI1
  rw [h1, h2, h3, h4, e]
  exact h
theorem VI_of {np r : Nat} (hn : V' 1 = V 1) (ho : ∀ k, k ≠ r → V' 2 k = V 2 k ∧ V' 6 k = V 6 k ∧ V' 7 k = V 7 k ∧ V' 8 k = V 8 k) (hr : r < nrN V) (h1 : VI1 np V' r) (h : VI np V) : VI np V' := by
  have e1 : nrN V' = nrN V := by unfold nrN; rw [hn]
  obtain ⟨g1, g2, g3⟩ := h
  unfold VI
  rw [e1]
  refine ⟨g1, fun k hk => ?_, fun k hk hk2 => ?_⟩
  · by_cases e : k = r
    · subst e; exact h1
    · obtain ⟨a, b, c, d⟩ := ho k e
      exact VI1_of a b c d (g2 k hk)
  · have e : k ≠ r := by omega
    rw [(ho k e).2.1]
    exact g3 k hk hk2
theorem VI_eq {np : Nat} (hn : V' 1 = V 1) (h2 : V' 2 = V 2) (h6 : V' 6 = V 6) (h7 : V' 7 = V 7) (h8 : V' 8 = V 8) (h : VI np V) : VI np V' := by
  have e1 : nrN V' = nrN V := by unfold nrN; rw [hn]
  obtain ⟨g1, g2, g3⟩ := h
  unfold VI
  rw [e1, h6]
  exact ⟨g1, fun k hk => VI1_of (by rw [h2]) (by rw [h6]) (by rw [h7]) (by rw [h8]) (g2 k hk), g3⟩
theorem sta_at {r : Nat} {p m : Int32} : staF V r p m 6 r = 1 ∧ staF V r p m 7 r = p := by
  unfold staF
  constructor
  · simp (disch := omega) only [sv_a, sv_s]
  · simp (disch := omega) only [sv_a, sv_s]
theorem sta_o {r k a : Nat} {p m : Int32} (h : k ≠ r) : staF V r p m a k = V a k := by
  unfold staF
  simp only [sv_at, h, and_false, if_false]
theorem sta_ne {r a : Nat} {p m : Int32} (h1 : a ≠ 6) (h2 : a ≠ 7) (h3 : a ≠ 8) (h4 : a ≠ 13) : staF V r p m a = V a := by
  unfold staF
  rw [sv_a h3, sv_a h4, sv_a h2, sv_a h1]
theorem end_at {r : Nat} {m : Int32} : endF V r m 6 r = 3 := by
  unfold endF
  simp (disch := omega) only [sv_a, sv_s]
theorem end_o {r k a : Nat} {m : Int32} (h : k ≠ r) : endF V r m a k = V a k := by
  unfold endF
  simp only [sv_at, h, and_false, if_false]
theorem end_ne {r a : Nat} {m : Int32} (h1 : a ≠ 6) (h2 : a ≠ 13) (h3 : a ≠ 12) : endF V r m a = V a := by
  unfold endF
  rw [sv_a h3, sv_a h2, sv_a h1]
theorem lea_o {r k a : Nat} {m : Int32} (h : k ≠ r) : leaF V r m a k = V a k := by
  unfold leaF
  simp only [sv_at, h, and_false, if_false]
theorem lea_ne {r a : Nat} {m : Int32} (h1 : a ≠ 6) (h2 : a ≠ 13) (h3 : a ≠ 8) : leaF V r m a = V a := by
  unfold leaF
  rw [sv_a h3, sv_a h2, sv_a h1]
theorem ahe_N {np r : Nat} (h : VI1 np V r) (h2 : V 6 r = 2) (hnp : np ≤ 10) : ∃ q, aheF V r = ic q ∧ q < np ∧ (V 2 r = 0 → q + 1 < np) ∧ (¬ V 2 r = 0 → 1 ≤ q) := by
  obtain ⟨a1, a2, a3, a4⟩ := h.1 (Or.inr h2)
  unfold aheF
  by_cases c : V 2 r = 0
  · rw [if_pos c, a1]
    have := a3 c
    exact ⟨_, ic_pred this, by omega, fun _ => by omega, fun q => absurd c q⟩
  · rw [if_neg c, a1, ic_add1]
    exact ⟨_, rfl, a4 c, fun q => absurd q c, fun _ => by omega⟩
theorem dri_ne {r a : Nat} (h1 : a ≠ 6) (h2 : a ≠ 7) (h3 : a ≠ 8) (h4 : a ≠ 13) (h5 : a ≠ 12) (h6 : a ≠ 9) (h7 : a ≠ 10) (h8 : a ≠ 19) (h9 : a ≠ 21) : driF X V r a = V a := by
  unfold driF
  repeat' split
  · rw [sv_a h3]
  · rw [end_ne h1 h4 h5, letOutF_ne h6 h7 h8 h9, sta_ne h1 h2 h3 h4, sv_a h3]
  · rw [letOutF_ne h6 h7 h8 h9, sta_ne h1 h2 h3 h4, sv_a h3]
theorem dri_o {r k a : Nat} (h : k ≠ r) (h6 : a ≠ 9) (h7 : a ≠ 10) (h8 : a ≠ 19) (h9 : a ≠ 21) : driF X V r a k = V a k := by
  unfold driF
  repeat' split
  · simp only [sv_at, h, and_false, if_false]
  · rw [end_o h, letOutF_ne h6 h7 h8 h9, sta_o h]
    simp only [sv_at, h, and_false, if_false]
  · rw [letOutF_ne h6 h7 h8 h9, sta_o h]
    simp only [sv_at, h, and_false, if_false]
theorem VI_s1 {r : Nat} (hx : RdOK X) (ho : VOK V) (h : VI (npN X) V) (hr : r < nrN V) : VOK (s1F X r V) ∧ VI (npN X) (s1F X r V) := by
  obtain ⟨hp, h1, h10, hs, h20, hm, hu⟩ := hx
  have h12 := ho.2.1
  unfold s1F
  by_cases c : V 6 r = 2
  · rw [if_pos c]
    refine ⟨VOK_of (dri_ne (by decide) (by decide) (by decide) (by decide) (by decide) (by decide) (by decide) (by decide) (by decide)) (dri_ne (by decide) (by decide) (by decide) (by decide) (by decide) (by decide) (by decide) (by decide) (by decide)) ho, VI_of (r := r) (dri_ne (by decide) (by decide) (by decide) (by decide) (by decide) (by decide) (by decide) (by decide) (by decide)) (fun k hk => ⟨dri_o hk (by decide) (by decide) (by decide) (by decide), dri_o hk (by decide) (by decide) (by decide) (by decide), dri_o hk (by decide) (by decide) (by decide) (by decide), dri_o hk (by decide) (by decide) (by decide) (by decide)⟩) hr ?_ h⟩
    have hv := h.2.1 r (by omega)
    obtain ⟨q, q1, q2, q3, q4⟩ := ahe_N hv c h10
    unfold driF
    split
    · rename_i c2
      have e2 : (sv V 8 r (V 8 r - 1)) 7 = V 7 := sv_a (by decide)
      have e3 : pN (sv V 8 r (V 8 r - 1)) r = pN V r := by unfold pN; rw [e2]
      have e6 : (sv V 8 r (V 8 r - 1)) 6 = V 6 := sv_a (by decide)
      have e4 : (sv V 8 r (V 8 r - 1)) 2 = V 2 := sv_a (by decide)
      unfold VI1
      rw [e3, e2, e6, e4, sv_s]
      exact ⟨fun _ => hv.1 (Or.inr c), fun _ => c2, fun g => absurd c g⟩
    · rename_i c2
      split
      · have e : ∀ W, (endF W r (V 0 5)) 6 r = 3 := fun W => end_at
        refine ⟨fun g => by rw [e] at g; exact absurd g (by decide), fun g => by rw [e] at g; exact absurd g (by decide), fun _ => ?_⟩
        rw [end_ne (by decide) (by decide) (by decide), letOutF_ne (by decide) (by decide) (by decide) (by decide)]
        unfold staF
        exact sv_s
      · rename_i c3
        have e6 : letOutF (staF (sv V 8 r (V 8 r - 1)) r (aheF V r) (V 0 5)) r 6 r = 1 := by
          rw [letOutF_ne (by decide) (by decide) (by decide) (by decide)]; exact sta_at.1
        have e7 : letOutF (staF (sv V 8 r (V 8 r - 1)) r (aheF V r) (V 0 5)) r 7 r = ic q := by
          rw [letOutF_ne (by decide) (by decide) (by decide) (by decide), sta_at.2]; exact q1
        have e8 : letOutF (staF (sv V 8 r (V 8 r - 1)) r (aheF V r) (V 0 5)) r 8 r = 0 := by
          rw [letOutF_ne (by decide) (by decide) (by decide) (by decide)]; unfold staF; exact sv_s
        have ep : pN (letOutF (staF (sv V 8 r (V 8 r - 1)) r (aheF V r) (V 0 5)) r) r = q := by unfold pN; rw [e7, ic_clamp (by omega)]
        unfold VI1
        rw [e6, e7, e8, ep]
        rw [q1, hp, ic_pred h1, ic_z, ic_le (by omega) (by omega), ic_le (by omega) (by omega)] at c3
        exact ⟨fun _ => ⟨rfl, q2, fun _ => by omega, fun _ => by omega⟩, fun g => absurd g (by decide), fun _ => rfl⟩
  · rw [if_neg c]
    exact ⟨ho, h⟩
theorem VI_s2 {r : Nat} (hx : RdOK X) (ho : VOK V) (h : VI (npN X) V) (hr : r < nrN V) : VOK (s2F X r V) ∧ VI (npN X) (s2F X r V) := by
  obtain ⟨hp, h1, h10, hs, h20, hm, hu⟩ := hx
  have h2 := h.1 (by omega)
  unfold s2F
  split
  · refine ⟨VOK_of (sta_ne (by decide) (by decide) (by decide) (by decide)) (sta_ne (by decide) (by decide) (by decide) (by decide)) ho, VI_of (r := r) (sta_ne (by decide) (by decide) (by decide) (by decide)) (fun k hk => ⟨sta_o hk, sta_o hk, sta_o hk, sta_o hk⟩) hr ?_ h⟩
    have e8 : ∀ p m, staF V r p m 8 r = 0 := fun p m => by unfold staF; exact sv_s
    unfold VI1
    rw [sta_at.1, sta_at.2, e8, sta_ne (by decide) (by decide) (by decide) (by decide)]
    refine ⟨fun _ => ?_, fun g => absurd g (by decide), fun _ => rfl⟩
    unfold pN
    rw [sta_at.2]
    by_cases c : V 2 r = 0
    · rw [if_pos c, hp, ic_pred h1, ic_clamp (by omega)]
      exact ⟨rfl, by omega, fun _ => by omega, fun q => absurd c q⟩
    · rw [if_neg c, ic_z, ic_clamp (by omega)]
      exact ⟨rfl, by omega, fun q => absurd q c, fun _ => by omega⟩
  · exact ⟨ho, h⟩
theorem str_N {np r : Nat} (hp : X 1 0 = ic np) (h1 : 1 ≤ np) (h10 : np ≤ 10) (c : ¬ strF V r < 0 ∧ ¬ X 1 0 - 1 ≤ strF V r) : strF V r = ic (strF V r).toNatClampNeg ∧ (strF V r).toNatClampNeg + 1 < np := by
  obtain ⟨q1, q2⟩ := ic_of c.1
  have c5 := c.2
  rw [hp, ic_pred h1, q1, ic_le (by omega) q2] at c5
  exact ⟨q1, by omega⟩
theorem VI_lif {r : Nat} (hx : RdOK X) (ho : VOK V) (hs1 : V 6 r = 1) (h : VI (npN X) V) (hr : r < nrN V) : VOK (lifF X V r) ∧ VI (npN X) (lifF X V r) := by
  obtain ⟨hp, h1, h10, hs, h20, hm, hu⟩ := hx
  have h12 := ho.2.1
  have key : ∀ W : Nat → Nat → Int32, (∀ a, a ≠ 23 → W a = V a) → VOK W ∧ VI (npN X) W := fun W hW => ⟨VOK_of (hW 1 (by decide)) (hW 14 (by decide)) ho, VI_eq (hW 1 (by decide)) (hW 2 (by decide)) (hW 6 (by decide)) (hW 7 (by decide)) (hW 8 (by decide)) h⟩
  unfold lifF
  split
  · exact ⟨ho, h⟩
  · rename_i c
    split
    · split
      · exact key _ (fun a ha => helF_ne ha _ _ _)
      · have c2 : ¬ strF V r < 0 ∧ ¬ X 1 0 - 1 ≤ strF V r := Classical.not_not.mp (fun q => c (Or.inr (Or.inl q)))
        obtain ⟨q1, q2⟩ := str_N hp h1 h10 c2
        have g := key (helF X r (pN V r) (npN X) (nrN V) 0 (lnN X) V).2 (fun a ha => helF_ne ha _ _ _)
        have e1 : nrN (helF X r (pN V r) (npN X) (nrN V) 0 (lnN X) V).2 = nrN V := by unfold nrN; rw [helF_ne (by decide)]
        refine ⟨VOK_of (lea_ne (by decide) (by decide) (by decide)) (lea_ne (by decide) (by decide) (by decide)) g.1, VI_of (r := r) (lea_ne (by decide) (by decide) (by decide)) (fun k hk => ⟨lea_o hk, lea_o hk, lea_o hk, lea_o hk⟩) (by rw [e1]; exact hr) ?_ g.2⟩
        have a1 := (h.2.1 r (by omega)).1 (Or.inl hs1)
        generalize hW : leaF (helF X r (pN V r) (npN X) (nrN V) 0 (lnN X) V).2 r (X 2 (strF V r).toNatClampNeg) = W
        have e7 : W 7 r = V 7 r := by rw [← hW, lea_ne (by decide) (by decide) (by decide), helF_ne (by decide)]
        have e2 : W 2 r = V 2 r := by rw [← hW, lea_ne (by decide) (by decide) (by decide), helF_ne (by decide)]
        have e8 : W 8 r = X 2 (strF V r).toNatClampNeg := by rw [← hW]; unfold leaF; exact sv_s
        have e6 : W 6 r = 2 := by rw [← hW]; unfold leaF; simp (disch := omega) only [sv_a, sv_s]
        have ep : pN W r = pN V r := by unfold pN; rw [e7]
        unfold VI1
        rw [e7, e2, e8, ep, e6]
        exact ⟨fun _ => a1, fun _ => hm _ q2, fun z => absurd rfl z⟩
    · exact ⟨ho, h⟩
theorem VI_s3 {r : Nat} (hx : RdOK X) (ho : VOK V) (h : VI (npN X) V) (hr : r < nrN V) : VOK (s3F X r V) ∧ VI (npN X) (s3F X r V) := by
  unfold s3F
  split
  · rename_i c
    have e : ∀ a, a ≠ 9 → a ≠ 10 → a ≠ 11 → a ≠ 19 → a ≠ 20 → a ≠ 22 → takF V r a = V a := fun a h1 h2 h3 h4 h5 h6 => takF_ne h1 h2 h3 h4 h5 h6
    have e1 : nrN (takF V r) = nrN V := by unfold nrN; rw [e 1 (by decide) (by decide) (by decide) (by decide) (by decide) (by decide)]
    exact VI_lif hx (VOK_of (e 1 (by decide) (by decide) (by decide) (by decide) (by decide) (by decide)) (e 14 (by decide) (by decide) (by decide) (by decide) (by decide) (by decide)) ho) (by rw [e 6 (by decide) (by decide) (by decide) (by decide) (by decide) (by decide)]; exact c) (VI_eq (e 1 (by decide) (by decide) (by decide) (by decide) (by decide) (by decide)) (e 2 (by decide) (by decide) (by decide) (by decide) (by decide) (by decide)) (e 6 (by decide) (by decide) (by decide) (by decide) (by decide) (by decide)) (e 7 (by decide) (by decide) (by decide) (by decide) (by decide) (by decide)) (e 8 (by decide) (by decide) (by decide) (by decide) (by decide) (by decide)) h) (by rw [e1]; exact hr)
  · exact ⟨ho, h⟩
end
