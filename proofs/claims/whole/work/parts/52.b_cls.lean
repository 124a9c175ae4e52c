/-! BEST, OF THE CLASS -/
section
variable {u : Nat × Nat} {L : Nat} {xs : Nat → Int32} {X : Nat → Nat → Int32} {Z : Nat → Nat → Int64} {K : List Value → AH → Prop} {V W : Nat → Nat → Int32}
/-- in how many minutes the run is over, of d at most -/
def fiN (X : Nat → Nat → Int32) (r : Nat) : Nat → (Nat → Nat → Int32) → Option Nat
  | 0, _ => none
  | d + 1, V => if (ticF X V) 6 r = 3 then some 1 else (fiN X r d (ticF X V)).map (· + 1)
theorem fi_pos {r : Nat} : ∀ d V i, fiN X r d V = some i → 1 ≤ i ∧ i ≤ d := by
  intro d
  induction d with
  | zero => intro V i h; simp [fiN] at h
  | succ d ih =>
    intro V i h
    unfold fiN at h
    split at h
    · cases h; omega
    · cases e : fiN X r d (ticF X V) with
      | none => rw [e] at h; cases h
      | some j =>
        rw [e] at h
        have h' : j + 1 = i := by simpa using h
        have := ih _ _ e
        omega
theorem fi_le {r : Nat} : ∀ d D V, d ≤ D → fiN X r d V = match fiN X r D V with | none => none | some i => if i ≤ d then some i else none := by
  intro d
  induction d with
  | zero =>
    intro D V _
    cases e : fiN X r D V with
    | none => rfl
    | some i =>
      have := fi_pos D V i e
      show fiN X r 0 V = if i ≤ 0 then some i else none
      rw [if_neg (by omega)]
      rfl
  | succ d ih =>
    intro D V h
    obtain ⟨E, rfl⟩ : ∃ E, D = E + 1 := ⟨D - 1, by omega⟩
    unfold fiN
    by_cases c : (ticF X V) 6 r = 3
    · rw [if_pos c, if_pos c]
      show some 1 = if 1 ≤ d + 1 then some 1 else none
      rw [if_pos (by omega)]
    · rw [if_neg c, if_neg c, ih E (ticF X V) (by omega)]
      cases fiN X r E (ticF X V) with
      | none => rfl
      | some i =>
        show Option.map (· + 1) (if i ≤ d then some i else none) = if i + 1 ≤ d + 1 then some (i + 1) else none
        by_cases z : i ≤ d
        · rw [if_pos z, if_pos (by omega)]; rfl
        · rw [if_neg z, if_neg (by omega)]; rfl
theorem muo_fi {r : Nat} {so : Int32} : ∀ d V, (muoF X r so d V).1 = match fiN X r d V with | none => -1 | some i => V 0 5 + ic i - so := by
  intro d
  induction d with
  | zero => intro V; rfl
  | succ d ih =>
    intro V
    unfold muoF fiN
    by_cases c : (ticF X V) 6 r = 3
    · rw [if_pos c, if_pos c]
      show (ticF X V) 0 5 - so = V 0 5 + ic 1 - so
      rw [tic_now]
      rfl
    · rw [if_neg c, if_neg c, ih]
      cases fiN X r d (ticF X V) with
      | none => rfl
      | some i =>
        show (ticF X V) 0 5 + ic i - so = V 0 5 + ic (i + 1) - so
        rw [tic_now, ← ic_add1, Int32.add_assoc, Int32.add_comm 1]
theorem t5_t5 {r : Nat} {m n : Int32} : T5 r m (T5 r n V) = T5 r m V := by
  funext a i
  unfold T5
  simp only [sv_at]
  by_cases c : a = 5 ∧ i = r <;> simp [c]
theorem tcs_s {d : Nat} : ∀ V, tcs X (d + 1) V = ticF X (tcs X d V) := by
  induction d with
  | zero => intro V; rfl
  | succ d ih => intro V; show tcs X (d + 1) (ticF X V) = _; rw [ih]; rfl
theorem tcs_add {c d : Nat} : ∀ V, tcs X (c + d) V = tcs X d (tcs X c V) := by
  induction d with
  | zero => intro V; rfl
  | succ d ih => intro V; rw [Nat.add_succ, tcs_s, ih, ← tcs_s]
theorem tcs_5 : ∀ d V, tcs X d V 5 = V 5 := by
  intro d
  induction d with
  | zero => intro V; rfl
  | succ d ih => intro V; rw [tcs_s, tic_5, ih]
theorem tcs_now {a : Nat} : ∀ d V, V 0 5 = ic a → tcs X d V 0 5 = ic (a + d) := by
  intro d
  induction d with
  | zero => intro V h; exact h
  | succ d ih => intro V h; rw [tcs_s, tic_now, ih V h, ic_add1]; rfl
theorem t5_tcs {r a b c : Nat} (hb : b < 2147483648) (hc : c < 2147483648) : ∀ d V, V 6 r = 0 → V 0 5 = ic a → V 5 r = ic b → a + d < b → a + d < c → tcs X d (T5 r (ic c) V) = T5 r (ic c) (tcs X d V) ∧ (tcs X d V) 6 r = 0 := by
  intro d
  induction d with
  | zero => intro V h6 _ _ _ _; exact ⟨rfl, h6⟩
  | succ d ih =>
    intro V h6 h0 h5 hb' hc'
    obtain ⟨g1, g2⟩ := ih V h6 h0 h5 (by omega) (by omega)
    have g := t5_tic (X := X) (V := tcs X d V) (r := r) (m := ic c) g2 (by rw [tcs_now d V h0, ic_add1, ic_lt (by omega) hc]; omega) (by rw [tcs_now d V h0, ic_add1, tcs_5, h5, ic_lt (by omega) hb]; omega)
    rw [tcs_s, tcs_s, g1, g.1]
    exact ⟨rfl, g.2.1⟩
def bstF (X : Nat → Nat → Int32) (r : Nat) (T : Nat → Nat → Nat → Int32) (m : Nat) (st : Option (Nat × Nat)) : Option (Nat × Nat) := match fiN X r (601 - m) (T m) with
  | none => st
  | some i => match st with
    | none => some (m, i - 1)
    | some (b, le) => if i - 1 < le then some (m, i - 1) else some (b, le)
def bmI (st : Option (Nat × Nat)) : Int32 := match st with | none => -1 | some (b, _) => ic b
def leN (st : Option (Nat × Nat)) : Nat := match st with | none => 600 | some (_, l) => l
theorem wz_sv {w a i : Nat} {v : Int32} (h : a < 24) : wz (sv X (w + a) i v) w = sv (wz X w) a i v := by
  funext b j
  by_cases hb : b < 24
  · rw [wz_at hb]
    simp only [sv_at, wz_at hb]
    by_cases c : b = a ∧ j = i
    · obtain ⟨rfl, rfl⟩ := c; simp
    · rw [if_neg c, if_neg (by omega)]
  · rw [wz_hi (by omega), sv_a (by omega), wz_hi (by omega)]
theorem hX_W {w : Nat} : hX u L xs X Z = hW u L xs X Z w (wz X w) := by unfold hW; rw [wz_self]
theorem wz_pw {w : Nat} (h : ∀ a, 24 ≤ a → V a = fun _ => 0) : wz (pw X w V) w = V := by
  funext a
  by_cases c : a < 24
  · rw [wz_at c]
    unfold pw
    rw [if_pos (by omega)]; congr 1; omega
  · rw [wz_hi (by omega), h a (by omega)]
theorem tic_hi {a : Nat} (h : 24 ≤ a) : ticF X V a = V a := by
  unfold ticF
  have a1 := itr_keep (f := s1F X) (g := fun W : Nat → Nat → Int32 => W a) (fun k W => by
    show s1F X k W a = W a
    unfold s1F
    split
    · exact dri_ne (by omega) (by omega) (by omega) (by omega) (by omega) (by omega) (by omega) (by omega) (by omega)
    · rfl)
  have a2 := itr_keep (f := s2F X) (g := fun W : Nat → Nat → Int32 => W a) (fun k W => by
    show s2F X k W a = W a
    unfold s2F
    split
    · exact sta_ne (by omega) (by omega) (by omega) (by omega)
    · rfl)
  have a3 := itr_keep (f := s3F X) (g := fun W : Nat → Nat → Int32 => W a) (fun k W => s3_ne (by omega) (by omega) (by omega) (by omega) (by omega) (by omega) (by omega) (by omega) (by omega) (by omega))
  exact ((a3 _ _ _).trans (a2 _ _ _)).trans ((a1 _ _ _).trans (sv_a (by omega)))
theorem tcs_hi {a : Nat} (h : 24 ≤ a) : ∀ d V, tcs X d V a = V a := by
  intro d
  induction d with
  | zero => intro V; rfl
  | succ d ih => intro V; rw [tcs_s, tic_hi h, ih]
theorem tic_2 : ticF X V 2 = V 2 := by
  unfold ticF
  have a1 := itr_keep (f := s1F X) (g := fun W : Nat → Nat → Int32 => W 2) (fun k W => by
    show s1F X k W 2 = W 2
    unfold s1F
    split
    · exact dri_ne (by decide) (by decide) (by decide) (by decide) (by decide) (by decide) (by decide) (by decide) (by decide)
    · rfl)
  have a2 := itr_keep (f := s2F X) (g := fun W : Nat → Nat → Int32 => W 2) (fun k W => by
    show s2F X k W 2 = W 2
    unfold s2F
    split
    · exact sta_ne (by decide) (by decide) (by decide) (by decide)
    · rfl)
  have a3 := itr_keep (f := s3F X) (g := fun W : Nat → Nat → Int32 => W 2) (fun k W => s3_ne (by decide) (by decide) (by decide) (by decide) (by decide) (by decide) (by decide) (by decide) (by decide) (by decide))
  exact ((a3 _ _ _).trans (a2 _ _ _)).trans ((a1 _ _ _).trans (sv_a (by decide)))
theorem tcs_2 : ∀ d V, tcs X d V 2 = V 2 := by
  intro d
  induction d with
  | zero => intro V; rfl
  | succ d ih => intro V; rw [tcs_s, tic_2, ih]
theorem lo_tcs {X' : Nat → Nat → Int32} (h : Lo X X') : ∀ d V, tcs X' d V = tcs X d V := by
  intro d
  induction d with
  | zero => intro V; rfl
  | succ d ih => intro V; unfold tcs; rw [lo_tic h, ih]
theorem lo_muo {X' : Nat → Nat → Int32} {r : Nat} {so : Int32} (h : Lo X X') : ∀ d V, muoF X' r so d V = muoF X r so d V := by
  intro d
  induction d with
  | zero => intro V; rfl
  | succ d ih => intro V; unfold muoF; rw [lo_tic h, ih]
theorem t5_WI {np r : Nat} {m : Int32} (h : WI np V) : WI np (T5 r m V) := ⟨VOK_of (t5_a (by decide)) (t5_a (by decide)) h.1, VI_eq (t5_a (by decide)) (t5_a (by decide)) (t5_a (by decide)) (t5_a (by decide)) (t5_a (by decide)) h.2.1, LI_of (t5_a (by decide)) (t5_a (by decide)) (t5_a (by decide)) h.2.2.1, CI_of (t5_a (by decide)) (t5_a (by decide)) (t5_a (by decide)) (t5_a (by decide)) (t5_a (by decide)) (t5_a (by decide)) h.2.2.2⟩
theorem tic_WI (hx : RdOK X) (h : WI (npN X) V) : WI (npN X) (ticF X V) := by
  have h0 := WI_now (v := V 0 5 + 1) h
  unfold ticF
  refine (itr_inv (f := s3F X) (I := fun W => WI (npN X) W ∧ nrN W = nrN V) (n := nrN V) (fun k W hk q => ⟨WI_s3 hx q.1 (by omega), by rw [nr_of (s3_ne (by decide) (by decide) (by decide) (by decide) (by decide) (by decide) (by decide) (by decide) (by decide) (by decide))]; exact q.2⟩) (nrN V) 0 _ (by omega) ?_).1
  refine itr_inv (f := s2F X) (I := fun W => WI (npN X) W ∧ nrN W = nrN V) (n := nrN V) (fun k W hk q => ⟨WI_s2 hx q.1 (by omega), by rw [nr_of s2_1]; exact q.2⟩) (nrN V) 0 _ (by omega) ?_
  exact itr_inv (f := s1F X) (I := fun W => WI (npN X) W ∧ nrN W = nrN V) (n := nrN V) (fun k W hk q => ⟨WI_s1 hx q.1 (by omega), by rw [nr_of s1_1]; exact q.2⟩) (nrN V) 0 _ (by omega) ⟨h0, sv05_n⟩
theorem tcs_WI (hx : RdOK X) : ∀ d V, WI (npN X) V → WI (npN X) (tcs X d V) := by
  intro d
  induction d with
  | zero => intro V h; exact h
  | succ d ih => intro V h; exact ih _ (tic_WI hx h)
def Fo (X X' : Nat → Nat → Int32) : Prop := ∀ a, a < 49 ∨ 97 ≤ a → X' a = X a
theorem Fo_Lo {X' : Nat → Nat → Int32} (h : Fo X X') : Lo X X' := fun a ha => h a (Or.inl (by omega))
theorem m1_eq {a b : Nat} : ic (a - 1) + ic (b + 1) - ic a = if a = 0 then ic (b + 1) else ic b := by
  by_cases h : a = 0
  · subst h
    rw [if_pos rfl]
    show ic 0 + ic (b + 1) - ic 0 = ic (b + 1)
    rw [← ic_z, Int32.zero_add, Int32.sub_zero]
  · rw [if_neg h, ic_add, show a - 1 + (b + 1) = b + a by omega, ← ic_add]
    exact Int32.add_sub_cancel _ _
set_option maxRecDepth 8000 in
set_option maxHeartbeats 1000000 in
theorem l_best {r nw lo hi : Nat} {Ve : Nat → Nat → Int32} (hx : RdOK X) (hw : WI (npN X) Ve) (hb : VB Ve) (hz : ∀ a, 24 ≤ a → Ve a = fun _ => 0) (hr : r < 12) (h6 : Ve 6 r = 0) (hnw : Ve 0 5 = ic nw) (hlo : nw < lo) (h4 : hi ≤ 400) : ∀ d m X' j st l7, m + d = hi + 1 → lo ≤ m → Fo X X' → T5 r (ic m) (wz X' 49) = tcs X j (T5 r (ic m) Ve) → nw + j < m → leN st ≤ 600 → (∀ X2 T l6 l7, (∀ k, m ≤ k → k < m + d → EqR (T k) (tcs X (k - 1 - nw) (T5 r (ic k) Ve))) → Fo X X2 → WP 84 0 149 [.ref 0, .int (ic r), .int (ic lo), .int (ic hi), .int (bmI (itr (bstF X r T) m d st)), .int (ic (leN (itr (bstF X r T) m d st))), l6, l7] [] (hX u L xs X2 Z) K) → WP 84 0 68 [.ref 0, .int (ic r), .int (ic lo), .int (ic hi), .int (bmI st), .int (ic (leN st)), .int (ic m), l7] [] (hX u L xs X' Z) K := by
  have er : (r < 12) = True := eq_true hr
  intro d
  induction d with
  | zero =>
    intro m X' j st l7 hm hlm hf ht hj hle hK
    have e : (hi < m) = True := eq_true (by omega)
    rw [w_84_68]
    simp (disch := first | assumption | omega) only [en_84, w_84_0, w_84_1, w_84_4, w_84_7, w_84_8, w_84_11, w_84_14, w_84_15, w_84_16, w_84_19, w_84_22, w_84_23, w_84_24, w_84_27, w_84_30, w_84_31, w_84_32, w_84_33, w_84_34, w_84_37, w_84_38, w_84_39, w_84_40, w_84_41, w_84_44, w_84_45, w_84_46, w_84_47, w_84_49, w_84_52, w_84_54, w_84_55, w_84_58, w_84_59, w_84_62, w_84_65, w_84_66, w_84_70, w_84_71, w_84_75, w_84_78, w_84_81, w_84_84, w_84_85, w_84_87, w_84_88, w_84_89, w_84_92, w_84_94, w_84_95, w_84_96, w_84_99, w_84_100, w_84_103, w_84_104, w_84_107, w_84_110, w_84_111, w_84_114, w_84_115, w_84_117, w_84_120, w_84_122, w_84_124, w_84_125, w_84_128, w_84_130, w_84_132, w_84_135, w_84_137, w_84_139, w_84_141, w_84_143, w_84_146, w_84_151, w_84_152, w_84_155, w_84_156, w_84_158, w_84_161, w_84_163, ic_lt, e, if_true]
    exact hK X' (fun k => Ve) _ _ (fun k h1 h2 => by omega) hf
  | succ d ih =>
    intro m X' j st l7 hm hlm hf ht hj hle hK
    have e : (hi < m) = False := eq_false (by omega)
    have e3 : ic m - 1 = ic (m - 1) := ic_pred (by omega)
    have hlo' := Fo_Lo hf
    rw [w_84_68]
    simp (disch := first | assumption | omega) only [en_84, w_84_0, w_84_1, w_84_4, w_84_7, w_84_8, w_84_11, w_84_14, w_84_15, w_84_16, w_84_19, w_84_22, w_84_23, w_84_24, w_84_27, w_84_30, w_84_31, w_84_32, w_84_33, w_84_34, w_84_37, w_84_38, w_84_39, w_84_40, w_84_41, w_84_44, w_84_45, w_84_46, w_84_47, w_84_49, w_84_52, w_84_54, w_84_55, w_84_58, w_84_59, w_84_62, w_84_65, w_84_66, w_84_70, w_84_71, w_84_74, w_84_75, w_84_78, w_84_81, w_84_84, w_84_85, w_84_87, w_84_89, w_84_92, w_84_94, w_84_95, w_84_96, w_84_99, w_84_100, w_84_103, w_84_104, w_84_107, w_84_110, w_84_111, w_84_114, w_84_115, w_84_117, w_84_120, w_84_122, w_84_124, w_84_125, w_84_128, w_84_130, w_84_132, w_84_135, w_84_137, w_84_139, w_84_141, w_84_143, w_84_146, w_84_149, w_84_151, w_84_152, w_84_155, w_84_156, w_84_158, w_84_161, w_84_163, ic_lt, e, if_false, inB_ic, ic_clamp, er, true_and, sv_d]
    rw [w_84_88, w_84_89, w_84_92, w_84_94, w_84_95, e3, w_84_96]
    -- eve goes on
    have f1 : Fo X (sv X' 54 r (ic m)) := fun a ha => by rw [sv_a (by omega)]; exact hf a ha
    have v1 : wz (sv X' 54 r (ic m)) 49 = tcs X j (T5 r (ic m) Ve) := by
      rw [← ht]
      exact wz_sv (w := 49) (a := 5) (by decide)
    have l1 := Fo_Lo f1
    have w1 : WI (npN X) (tcs X j (T5 r (ic m) Ve)) := tcs_WI hx j _ (t5_WI hw)
    have n1 : (tcs X j (T5 r (ic m) Ve)) 0 5 = ic (nw + j) := tcs_now j _ (by rw [t5_a (by decide)]; exact hnw)
    have ev : tcs X (m - 1 - (nw + j)) (tcs X j (T5 r (ic m) Ve)) = tcs X (m - 1 - nw) (T5 r (ic m) Ve) := by
      rw [← tcs_add]
      congr 1
      omega
    rw [hX_W (w := 49), v1]
    rw [c_goOn (Or.inr (Or.inl rfl)) (by rw [lo_Rd l1]; exact hx) w1.1 (by rw [lo_np l1]; exact w1.2.1) (la := m - 1) (nw := nw + j) (by omega) n1 (by omega), lo_tcs l1, ev]
    simp only [ne_thr0, app0, true_and]
    have v2 : wz (pw (sv X' 54 r (ic m)) 49 (tcs X (m - 1 - nw) (T5 r (ic m) Ve))) 49 = tcs X (m - 1 - nw) (T5 r (ic m) Ve) := wz_pw (fun a ha => by rw [tcs_hi ha, t5_a (by omega)]; exact hz a ha)
    have f2 : Fo X (pw (sv X' 54 r (ic m)) 49 (tcs X (m - 1 - nw) (T5 r (ic m) Ve))) := fun a ha => by
      unfold pw
      rw [if_neg (by omega)]
      exact f1 a ha
    unfold hW
    generalize pw (sv X' 54 r (ic m)) 49 (tcs X (m - 1 - nw) (T5 r (ic m) Ve)) = X3 at v2 f2 ⊢
    rw [w_84_99, w_84_100, w_84_103, w_84_104, w_84_107]
    -- trial is a copy of eve
    have vb : VB (wz X3 49) := by
      rw [v2]
      intro i hi
      rw [tcs_2, t5_a (by decide)]
      exact hb i hi
    refine c_copyb vb (fun X4 f4 q4 => ?_)
    simp only [ne_thr0, app0, true_and]
    rw [v2] at q4
    have f4' : Fo X X4 := fun a ha => by rw [f4 a (by omega)]; exact f2 a ha
    have l4 := Fo_Lo f4'
    have w49 : wz X4 49 = tcs X (m - 1 - nw) (T5 r (ic m) Ve) := by
      rw [← v2]
      funext a
      by_cases c : a < 24
      · rw [wz_at c, wz_at c, f4 (49 + a) (by omega)]
      · rw [wz_hi (by omega), wz_hi (by omega)]
    -- trial goes on
    rw [w_84_110, w_84_111, w_84_114, w_84_115, w_84_117, hX_W (w := 73)]
    have wE : WI (npN X) (tcs X (m - 1 - nw) (T5 r (ic m) Ve)) := tcs_WI hx _ _ (t5_WI hw)
    have wT := EqR_WI q4 wE
    have nT : wz X4 73 0 5 = ic (m - 1) := by
      rw [q4.1, tcs_now (a := nw) _ _ (by rw [t5_a (by decide)]; exact hnw)]
      congr 1
      omega
    have mT : wz X4 73 5 r = ic m := by
      rw [EqR_f q4 (by decide) (by decide) hr, tcs_5]
      exact sv_s
    have hst : ∀ st : Option (Nat × Nat), 1 ≤ m + leN st := fun st => by omega
    rw [c_muo (Or.inr (Or.inr rfl)) (by rw [lo_Rd l4]; exact hx) wT.1 (by rw [lo_np l4]; exact wT.2.1) hr nT (by omega) mT (by omega) hle (hst st), lo_muo l4]
    simp only [ne_thr, app1, true_and]
    rw [muo_fi, nT]
    generalize hVT : (muoF X r (ic m) (min 600 (m + leN st - 1) - (m - 1)) (wz X4 73)).2 = V5
    have f5 : Fo X (pw X4 73 V5) := fun a ha => by
      unfold pw
      rw [if_neg (by omega)]
      exact f4' a ha
    have w5 : wz (pw X4 73 V5) 49 = tcs X (m - 1 - nw) (T5 r (ic m) Ve) := by
      rw [← w49]
      funext a
      by_cases c : a < 24
      · rw [wz_at c, wz_at c]
        unfold pw
        rw [if_neg (by omega)]
      · rw [wz_hi (by omega), wz_hi (by omega)]
    unfold hW
    -- what the run of this minute needs
    have nxt : ∀ st' l7, leN st' ≤ 600 → (∀ T, EqR (T m) (tcs X (m - 1 - nw) (T5 r (ic m) Ve)) → T m = wz X4 73 → bstF X r T m st = st') → WP 84 0 68 [.ref 0, .int (ic r), .int (ic lo), .int (ic hi), .int (bmI st'), .int (ic (leN st')), .int (ic (m + 1)), l7] [] (hX u L xs (pw X4 73 V5) Z) K := by
      intro st' l7 hle' hst'
      have cm := t5_tcs (X := X) (r := r) (a := nw) (b := m) (c := m + 1) (by omega) (by omega) (m - 1 - nw) (T5 r (ic m) Ve) (by rw [t5_a (by decide)]; exact h6) (by rw [t5_a (by decide)]; exact hnw) sv_s (by omega) (by omega)
      rw [t5_t5] at cm
      rw [w5.symm] at cm
      refine ih (m + 1) _ (m - 1 - nw) st' l7 (by omega) (by omega) f5 cm.1.symm (by omega) hle' (fun X2 T l6 l7 h1 h2 => ?_)
      have hTm : (fun k => if k = m then wz X4 73 else T k) m = wz X4 73 := if_pos rfl
      have g := hK X2 (fun k => if k = m then wz X4 73 else T k) l6 l7 (fun k k1 k2 => by
        show EqR (if k = m then wz X4 73 else T k) _
        by_cases c : k = m
        · subst c; rw [if_pos rfl]; exact q4
        · rw [if_neg c]; exact h1 k (by omega) (by omega)) h2
      unfold itr at g
      rw [hst' (fun k => if k = m then wz X4 73 else T k) (by show EqR (if m = m then wz X4 73 else T m) _; rw [if_pos rfl]; exact q4) hTm, itr_congr (g := bstF X r T) (fun k b k1 k2 => by unfold bstF; simp only [show ¬ k = m by omega, if_false])] at g
      exact g
    -- found or not
    have hD : min 600 (m + leN st - 1) - (m - 1) ≤ 601 - m := by omega
    have key := fi_le (X := X) (r := r) (min 600 (m + leN st - 1) - (m - 1)) (601 - m) (wz X4 73) hD
    cases hfi : fiN X r (601 - m) (wz X4 73) with
    | none =>
      rw [hfi] at key
      rw [key]
      have n := nxt st (.int (-1)) hle (fun T _ h2 => by unfold bstF; rw [h2, hfi])
      simp (disch := first | assumption | omega) only [en_84, w_84_0, w_84_1, w_84_4, w_84_7, w_84_8, w_84_11, w_84_14, w_84_15, w_84_16, w_84_19, w_84_22, w_84_23, w_84_24, w_84_27, w_84_30, w_84_31, w_84_32, w_84_33, w_84_34, w_84_37, w_84_38, w_84_39, w_84_40, w_84_41, w_84_44, w_84_45, w_84_46, w_84_47, w_84_49, w_84_52, w_84_54, w_84_55, w_84_58, w_84_59, w_84_62, w_84_65, w_84_66, w_84_70, w_84_71, w_84_74, w_84_75, w_84_78, w_84_81, w_84_84, w_84_85, w_84_87, w_84_88, w_84_89, w_84_92, w_84_94, w_84_95, w_84_96, w_84_99, w_84_100, w_84_103, w_84_104, w_84_107, w_84_110, w_84_111, w_84_114, w_84_115, w_84_117, w_84_120, w_84_122, w_84_124, w_84_125, w_84_128, w_84_130, w_84_132, w_84_135, w_84_137, w_84_139, w_84_141, w_84_143, w_84_146, w_84_151, w_84_152, w_84_155, w_84_156, w_84_158, w_84_161, w_84_163, if_true, ic_add1]
      exact n
    | some i =>
      have hi1 := fi_pos _ _ _ hfi
      rw [hfi] at key
      by_cases c : i ≤ min 600 (m + leN st - 1) - (m - 1)
      · have key' : fiN X r (min 600 (m + leN st - 1) - (m - 1)) (wz X4 73) = some i := by rw [key]; exact if_pos c
        rw [key']
        have n := nxt (some (m, i - 1)) (.int (ic (i - 1))) (by show i - 1 ≤ 600; omega) (fun T _ h2 => by
          unfold bstF
          rw [h2, hfi]
          cases st with
          | none => rfl
          | some q =>
            obtain ⟨b, le⟩ := q
            show (if i - 1 < le then some (m, i - 1) else some (b, le)) = some (m, i - 1)
            have : leN (some (b, le)) = le := rfl
            rw [if_pos (by omega)])
        have ei : ic (m - 1) + ic i - ic m = ic (i - 1) := by
          have := m1_eq (a := m) (b := i - 1)
          rw [if_neg (by omega), show i - 1 + 1 = i by omega] at this
          exact this
        show WP 84 0 120 _ [.int (ic (m - 1) + ic i - ic m)] _ K
        have z : (ic (i - 1) = -1) = False := eq_false (fun q => by have := ic_neg (n := i - 1) (by omega); rw [q] at this; exact absurd this (by decide))
        have z2 : (leN st ≤ i - 1) = False := eq_false (by omega)
        rw [ei]
        simp (disch := first | assumption | omega) only [en_84, w_84_0, w_84_1, w_84_4, w_84_7, w_84_8, w_84_11, w_84_14, w_84_15, w_84_16, w_84_19, w_84_22, w_84_23, w_84_24, w_84_27, w_84_30, w_84_31, w_84_32, w_84_33, w_84_34, w_84_37, w_84_38, w_84_39, w_84_40, w_84_41, w_84_44, w_84_45, w_84_46, w_84_47, w_84_49, w_84_52, w_84_54, w_84_55, w_84_58, w_84_59, w_84_62, w_84_65, w_84_66, w_84_70, w_84_71, w_84_74, w_84_75, w_84_78, w_84_81, w_84_84, w_84_85, w_84_87, w_84_88, w_84_89, w_84_92, w_84_94, w_84_95, w_84_96, w_84_99, w_84_100, w_84_103, w_84_104, w_84_107, w_84_110, w_84_111, w_84_114, w_84_115, w_84_117, w_84_120, w_84_122, w_84_124, w_84_125, w_84_128, w_84_130, w_84_132, w_84_135, w_84_137, w_84_139, w_84_141, w_84_143, w_84_146, w_84_151, w_84_152, w_84_155, w_84_156, w_84_158, w_84_161, w_84_163, z, if_false, ic_le, z2, ic_add1]
        exact n
      · have key' : fiN X r (min 600 (m + leN st - 1) - (m - 1)) (wz X4 73) = none := by rw [key]; exact if_neg c
        rw [key']
        have n := nxt st (.int (-1)) hle (fun T _ h2 => by
          unfold bstF
          rw [h2, hfi]
          cases st with
          | none => exfalso; apply c; show i ≤ min 600 (m + 600 - 1) - (m - 1); omega
          | some q =>
            obtain ⟨b, le⟩ := q
            show (if i - 1 < le then some (m, i - 1) else some (b, le)) = some (b, le)
            have : leN (some (b, le)) = le := rfl
            rw [if_neg (by omega)])
        simp (disch := first | assumption | omega) only [en_84, w_84_0, w_84_1, w_84_4, w_84_7, w_84_8, w_84_11, w_84_14, w_84_15, w_84_16, w_84_19, w_84_22, w_84_23, w_84_24, w_84_27, w_84_30, w_84_31, w_84_32, w_84_33, w_84_34, w_84_37, w_84_38, w_84_39, w_84_40, w_84_41, w_84_44, w_84_45, w_84_46, w_84_47, w_84_49, w_84_52, w_84_54, w_84_55, w_84_58, w_84_59, w_84_62, w_84_65, w_84_66, w_84_70, w_84_71, w_84_74, w_84_75, w_84_78, w_84_81, w_84_84, w_84_85, w_84_87, w_84_88, w_84_89, w_84_92, w_84_94, w_84_95, w_84_96, w_84_99, w_84_100, w_84_103, w_84_104, w_84_107, w_84_110, w_84_111, w_84_114, w_84_115, w_84_117, w_84_120, w_84_122, w_84_124, w_84_125, w_84_128, w_84_130, w_84_132, w_84_135, w_84_137, w_84_139, w_84_141, w_84_143, w_84_146, w_84_151, w_84_152, w_84_155, w_84_156, w_84_158, w_84_161, w_84_163, if_true, ic_add1]
        exact n
end
