/-! BEST: until the eve of its setting out, a run's minute touches nothing -/
section
variable {X V : Nat → Nat → Int32} {r : Nat} {m : Int32}
def T5 (r : Nat) (m : Int32) (V : Nat → Nat → Int32) : Nat → Nat → Int32 := sv V 5 r m
theorem t5_a {a : Nat} (h : a ≠ 5) : T5 r m V a = V a := sv_a h
theorem t5_o {k : Nat} (h : k ≠ r) : T5 r m V 5 k = V 5 k := sv_i h
theorem t5_sv {a i : Nat} {v : Int32} (h : a ≠ 5) : sv (T5 r m V) a i v = T5 r m (sv V a i v) := by unfold T5; exact sv_comm (Ne.symm h)
theorem t5_sk {S : Nat → Int32} : sk (T5 r m V) S = T5 r m (sk V S) := by
  funext a i
  unfold T5
  by_cases h : a = 23
  · subst h
    rw [sk_s, sv_a (by decide), sk_s]
  · rw [sk_n h]
    simp only [sv_at, sk_n h]
theorem t5_nl : nlF (T5 r m V) = nlF V := by unfold nlF; rw [t5_a (by decide)]
theorem t5_nr : nrN (T5 r m V) = nrN V := by unfold nrN; rw [t5_a (by decide)]
theorem t5_cnt {q k : Nat} {v : Int32} : cntF (T5 r m V) q k v = T5 r m (cntF V q k v) := by
  unfold cntF
  rw [t5_a (by decide), t5_a (by decide), t5_a (by decide)]
  split
  · exact t5_sv (by decide)
  · exact t5_sv (by decide)
theorem t5_out {q k : Nat} : outF q k (T5 r m V) = T5 r m (outF q k V) := by
  unfold outF
  simp (disch := decide) only [t5_a]
  split
  · rw [t5_sv (by decide), t5_sv (by decide), t5_cnt]
  · rfl
theorem itr_comm {α : Type} {f : Nat → α → α} {T : α → α} {P : α → Prop} (h : ∀ k a, P a → f k (T a) = T (f k a) ∧ P (f k a)) : ∀ d k a, P a → itr f k d (T a) = T (itr f k d a) ∧ P (itr f k d a) := by
  intro d
  induction d with
  | zero => intro k a q; exact ⟨rfl, q⟩
  | succ d ih =>
    intro k a q
    unfold itr
    obtain ⟨g1, g2⟩ := h k a q
    rw [g1]
    exact ih (k + 1) (f k a) g2
theorem t5_let {q : Nat} : letOutF (T5 r m V) q = T5 r m (letOutF V q) := by
  unfold letOutF
  rw [t5_nl]
  exact (itr_comm (f := outF q) (T := T5 r m) (P := fun _ => True) (fun k a _ => ⟨t5_out, trivial⟩) (nlF V) 0 V trivial).1
theorem t5_sta {q : Nat} {p n : Int32} : staF (T5 r m V) q p n = T5 r m (staF V q p n) := by
  unfold staF
  rw [t5_sv (by decide), t5_sv (by decide), t5_sv (by decide), t5_sv (by decide)]
theorem t5_end {q : Nat} {n : Int32} : endF (T5 r m V) q n = T5 r m (endF V q n) := by
  unfold endF
  rw [t5_sv (by decide), t5_sv (by decide), t5_sv (by decide)]
theorem t5_lea {q : Nat} {n : Int32} : leaF (T5 r m V) q n = T5 r m (leaF V q n) := by
  unfold leaF
  rw [t5_sv (by decide), t5_sv (by decide), t5_sv (by decide)]
theorem t5_ahe {q : Nat} : aheF (T5 r m V) q = aheF V q := by unfold aheF; simp (disch := decide) only [t5_a]
theorem t5_str : strF (T5 r m V) = strF V := by funext q; unfold strF; simp (disch := decide) only [t5_a]
theorem t5_dri {q : Nat} : driF X (T5 r m V) q = T5 r m (driF X V q) := by
  unfold driF
  rw [t5_ahe, t5_sv (by decide), t5_a (by decide), t5_a (by decide), t5_sta, t5_let, t5_end]
  repeat' split
  all_goals rfl
theorem t5_ran : ranF (T5 r m V) = ranF V := by funext k; unfold ranF; simp (disch := decide) only [t5_a]
theorem t5_com {a b c d : Int32} : comB (T5 r m V) a b c d = comB V a b c d := by funext k; unfold comB; simp (disch := decide) only [t5_a]
theorem t5_nex {a b c d : Int32} : nexF (T5 r m V) a b c d = nexF V a b c d := by
  have e : nxtS (T5 r m V) a b c d = nxtS V a b c d := by funext k nx; unfold nxtS; rw [t5_com, t5_ran]
  unfold nexF
  rw [e, t5_nl]
theorem t5_get {q k : Nat} : getF (T5 r m V) q k = T5 r m (getF V q k) := by
  have e : farF (T5 r m V) k = farF V k := by unfold farF; simp (disch := decide) only [t5_a]
  unfold getF
  rw [e, t5_a (by decide), t5_sv (by decide), t5_sv (by decide), t5_sv (by decide), t5_sv (by decide), t5_cnt]
theorem t5_tk {q : Nat} {per : Int32} : ∀ d V, tkF q per d (T5 r m V) = T5 r m (tkF q per d V) := by
  intro d
  induction d with
  | zero => intro V; rfl
  | succ d ih =>
    intro V
    unfold tkF
    rw [t5_a (by decide), t5_a (by decide), t5_a (by decide), t5_nex]
    split
    · rfl
    · rw [t5_get, ih]
theorem t5_tak {q : Nat} : takF (T5 r m V) q = T5 r m (takF V q) := by
  unfold takF
  rw [t5_a (by decide), t5_a (by decide), t5_tk, t5_a (by decide), t5_a (by decide), t5_tk]
theorem t5_las : lasP (T5 r m V) = lasP V := by funext q k; unfold lasP; simp (disch := decide) only [t5_a]
theorem t5_fr {q sn np n : Nat} : frB X (T5 r m V) q sn np n = frB X V q sn np n := by
  have e : ∀ s lo hi ah na, blkB (T5 r m V) q s lo hi ah na = blkB V q s lo hi ah na := by
    intro s lo hi ah na
    funext k
    unfold blkB
    rw [t5_str]
    simp (disch := decide) only [t5_a]
  unfold frB
  rw [e, t5_ahe]
theorem t5_fac {q p np n : Nat} (h : q ≠ r) : facF X (T5 r m V) q p np n = facF X V q p np n := by
  funext kd nu
  unfold facF lateF
  rw [t5_las, t5_o h]
  simp (disch := decide) only [t5_a]
theorem t5_val {q p np n l : Nat} (h : q ≠ r) : valF X (T5 r m V) q p np n l = valF X V q p np n l := by
  have e : stpF X (T5 r m V) q p np n = stpF X V q p np n := by funext i a; unfold stpF; rw [t5_fac h]
  unfold valF
  rw [e, t5_a (by decide)]
theorem t5_hel {q p np n : Nat} (h : q ≠ r) : ∀ d k V, helF X q p np n k d (T5 r m V) = ((helF X q p np n k d V).1, T5 r m (helF X q p np n k d V).2) := by
  intro d
  induction d with
  | zero => intro k V; rfl
  | succ d ih =>
    intro k V
    unfold helF
    rw [t5_a (by decide), t5_a (by decide), t5_a (by decide), t5_val h, t5_sk]
    repeat' split
    · rw [ih]
    · rfl
    · rw [ih]
theorem t5_pN {q : Nat} : pN (T5 r m V) q = pN V q := by unfold pN; rw [t5_a (by decide)]
theorem t5_lif {q : Nat} (h : q ≠ r) : lifF X (T5 r m V) q = T5 r m (lifF X V q) := by
  unfold lifF
  rw [t5_str, t5_fr, t5_pN, t5_nr, t5_hel h, t5_a (by decide), t5_a (by decide), t5_lea]
  repeat' split
  all_goals rfl
/-- run r is ahead, and will not begin in this minute, with either minute -/
def P5 (r : Nat) (m : Int32) (V : Nat → Nat → Int32) : Prop := V 6 r = 0 ∧ V 0 5 < m ∧ V 0 5 < V 5 r
theorem p5_of {V' : Nat → Nat → Int32} (h6 : V' 6 r = V 6 r) (h0 : V' 0 = V 0) (h5 : V' 5 = V 5) (h : P5 r m V) : P5 r m V' := by
  unfold P5
  rw [h6, h0, h5]
  exact h
theorem t5_s1 (h : P5 r m V) {k : Nat} : s1F X k (T5 r m V) = T5 r m (s1F X k V) ∧ P5 r m (s1F X k V) := by
  unfold s1F
  rw [t5_a (by decide), t5_dri]
  by_cases c : V 6 k = 2
  · have hk : r ≠ k := by rintro rfl; rw [h.1] at c; exact absurd c (by decide)
    rw [if_pos c, if_pos c]
    exact ⟨rfl, p5_of (dri_o hk (by decide) (by decide) (by decide) (by decide)) (dri_ne (by decide) (by decide) (by decide) (by decide) (by decide) (by decide) (by decide) (by decide) (by decide)) (dri_ne (by decide) (by decide) (by decide) (by decide) (by decide) (by decide) (by decide) (by decide) (by decide)) h⟩
  · rw [if_neg c, if_neg c]
    exact ⟨rfl, h⟩
theorem t5_s2 (h : P5 r m V) {k : Nat} : s2F X k (T5 r m V) = T5 r m (s2F X k V) ∧ P5 r m (s2F X k V) := by
  unfold s2F
  simp (disch := decide) only [t5_a]
  by_cases e : k = r
  · subst e
    have e5 : T5 k m V 5 k = m := sv_s
    rw [e5, if_neg (fun q => q.2 h.2.1), if_neg (fun q => q.2 h.2.2)]
    exact ⟨rfl, h⟩
  · rw [t5_o e]
    split
    · exact ⟨t5_sta, p5_of (sta_o (Ne.symm e)) (sta_ne (by decide) (by decide) (by decide) (by decide)) (sta_ne (by decide) (by decide) (by decide) (by decide)) h⟩
    · exact ⟨rfl, h⟩
theorem lif_o {k q : Nat} (h : q ≠ k) : lifF X V k 6 q = V 6 q := by
  unfold lifF
  repeat' split
  · rfl
  · rw [helF_ne (by decide)]
  · rw [lea_o h, helF_ne (by decide)]
  · rfl
theorem t5_s3 (h : P5 r m V) {k : Nat} : s3F X k (T5 r m V) = T5 r m (s3F X k V) ∧ P5 r m (s3F X k V) := by
  unfold s3F
  rw [t5_a (by decide), t5_tak]
  by_cases c : V 6 k = 1
  · have hk : k ≠ r := by rintro rfl; rw [h.1] at c; exact absurd c (by decide)
    rw [if_pos c, if_pos c, t5_lif hk]
    refine ⟨rfl, p5_of ?_ ?_ ?_ h⟩
    · rw [lif_o (Ne.symm hk), takF_ne (by decide) (by decide) (by decide) (by decide) (by decide) (by decide)]
    · rw [lif_ne (by decide) (by decide) (by decide) (by decide), takF_ne (by decide) (by decide) (by decide) (by decide) (by decide) (by decide)]
    · rw [lif_ne (by decide) (by decide) (by decide) (by decide), takF_ne (by decide) (by decide) (by decide) (by decide) (by decide) (by decide)]
  · rw [if_neg c, if_neg c]
    exact ⟨rfl, h⟩
theorem t5_tic (h : V 6 r = 0) (h1 : V 0 5 + 1 < m) (h2 : V 0 5 + 1 < V 5 r) : ticF X (T5 r m V) = T5 r m (ticF X V) ∧ P5 r m (ticF X V) := by
  unfold ticF
  rw [t5_nr, t5_a (by decide), t5_sv (by decide)]
  have p0 : P5 r m (sv V 0 5 (V 0 5 + 1)) := by
    unfold P5
    rw [sv_s, sv_a (by decide), sv_a (by decide)]
    exact ⟨h, h1, h2⟩
  have g1 := itr_comm (f := s1F X) (T := T5 r m) (P := P5 r m) (fun k a q => t5_s1 q) (nrN V) 0 _ p0
  have g2 := itr_comm (f := s2F X) (T := T5 r m) (P := P5 r m) (fun k a q => t5_s2 q) (nrN V) 0 _ g1.2
  have g3 := itr_comm (f := s3F X) (T := T5 r m) (P := P5 r m) (fun k a q => t5_s3 q) (nrN V) 0 _ g2.2
  rw [g1.1, g2.1, g3.1]
  exact ⟨rfl, g3.2⟩
theorem tic_05 : ticF X V 0 = (sv V 0 5 (V 0 5 + 1)) 0 := by
  unfold ticF
  have a1 := itr_keep (f := s1F X) (g := fun W : Nat → Nat → Int32 => W 0) (fun k W => by
    show s1F X k W 0 = W 0
    unfold s1F
    split
    · exact dri_ne (by decide) (by decide) (by decide) (by decide) (by decide) (by decide) (by decide) (by decide) (by decide)
    · rfl)
  have a2 := itr_keep (f := s2F X) (g := fun W : Nat → Nat → Int32 => W 0) (fun k W => by
    show s2F X k W 0 = W 0
    unfold s2F
    split
    · exact sta_ne (by decide) (by decide) (by decide) (by decide)
    · rfl)
  have a3 := itr_keep (f := s3F X) (g := fun W : Nat → Nat → Int32 => W 0) (fun k W => s3_ne (by decide) (by decide) (by decide) (by decide) (by decide) (by decide) (by decide) (by decide) (by decide) (by decide))
  exact ((a3 _ _ _).trans (a2 _ _ _)).trans (a1 _ _ _)
theorem tic_now : ticF X V 0 5 = V 0 5 + 1 := by rw [tic_05, sv_s]
theorem tic_5 : ticF X V 5 = V 5 := by
  unfold ticF
  have a1 := itr_keep (f := s1F X) (g := fun W : Nat → Nat → Int32 => W 5) (fun k W => by
    show s1F X k W 5 = W 5
    unfold s1F
    split
    · exact dri_ne (by decide) (by decide) (by decide) (by decide) (by decide) (by decide) (by decide) (by decide) (by decide)
    · rfl)
  have a2 := itr_keep (f := s2F X) (g := fun W : Nat → Nat → Int32 => W 5) (fun k W => by
    show s2F X k W 5 = W 5
    unfold s2F
    split
    · exact sta_ne (by decide) (by decide) (by decide) (by decide)
    · rfl)
  have a3 := itr_keep (f := s3F X) (g := fun W : Nat → Nat → Int32 => W 5) (fun k W => s3_ne (by decide) (by decide) (by decide) (by decide) (by decide) (by decide) (by decide) (by decide) (by decide) (by decide))
  exact ((a3 _ _ _).trans (a2 _ _ _)).trans ((a1 _ _ _).trans (sv_a (by decide)))
/-- when a run's way ends, the minute is written down -/
def Q12 (r : Nat) (V : Nat → Nat → Int32) : Prop := V 6 r = 3 → V 12 r = V 0 5
theorem q12_tic (h : ¬ V 6 r = 3) : Q12 r (ticF X V) := by
  have i1 : ∀ k W, Q12 r W → Q12 r (s1F X k W) := by
    intro k W q
    unfold s1F
    split
    · rename_i c
      by_cases e : r = k
      · subst e
        unfold driF
        repeat' split
        · intro z; rw [sv_a (by decide), c] at z; exact absurd z (by decide)
        · intro _
          have e0 : ∀ U n, endF U r n 0 = U 0 := fun U n => end_ne (by decide) (by decide) (by decide)
          rw [e0, letOutF_ne (by decide) (by decide) (by decide) (by decide), sta_ne (by decide) (by decide) (by decide) (by decide), sv_a (by decide)]
          unfold endF
          exact sv_s
        · intro z; rw [letOutF_ne (by decide) (by decide) (by decide) (by decide), sta_at.1] at z; exact absurd z (by decide)
      · intro z
        rw [dri_o e (by decide) (by decide) (by decide) (by decide)] at z ⊢
        rw [dri_ne (by decide) (by decide) (by decide) (by decide) (by decide) (by decide) (by decide) (by decide) (by decide)]
        exact q z
    · exact q
  have i2 : ∀ k W, Q12 r W → Q12 r (s2F X k W) := by
    intro k W q
    unfold s2F
    split
    · intro z
      by_cases e : r = k
      · subst e; rw [sta_at.1] at z; exact absurd z (by decide)
      · rw [sta_o e] at z
        rw [sta_ne (by decide) (by decide) (by decide) (by decide), sta_ne (by decide) (by decide) (by decide) (by decide)]
        exact q z
    · exact q
  have i3 : ∀ k W, Q12 r W → Q12 r (s3F X k W) := by
    intro k W q z
    rw [s3_ne (by decide) (by decide) (by decide) (by decide) (by decide) (by decide) (by decide) (by decide) (by decide) (by decide), s3_ne (by decide) (by decide) (by decide) (by decide) (by decide) (by decide) (by decide) (by decide) (by decide) (by decide)]
    apply q
    unfold s3F at z
    split at z
    · rename_i c
      by_cases e : r = k
      · subst e
        exfalso
        have t6 : takF W r 6 = W 6 := takF_ne (by decide) (by decide) (by decide) (by decide) (by decide) (by decide)
        unfold lifF at z
        split at z
        · rw [t6, c] at z; exact absurd z (by decide)
        · split at z
          · split at z
            · rw [helF_ne (by decide), t6, c] at z; exact absurd z (by decide)
            · unfold leaF at z
              rw [sv_a (by decide), sv_a (by decide), sv_s] at z
              exact absurd z (by decide)
          · rw [t6, c] at z; exact absurd z (by decide)
      · rw [lif_o e, takF_ne (by decide) (by decide) (by decide) (by decide) (by decide) (by decide)] at z
        exact z
    · exact z
  have q0 : Q12 r (sv V 0 5 (V 0 5 + 1)) := fun z => by rw [sv_a (by decide)] at z; exact absurd z h
  unfold ticF
  exact itr_inv (f := s3F X) (I := Q12 r) (n := nrN V) (fun k W _ q => i3 k W q) _ _ _ (by omega) (itr_inv (f := s2F X) (I := Q12 r) (n := nrN V) (fun k W _ q => i2 k W q) _ _ _ (by omega) (itr_inv (f := s1F X) (I := Q12 r) (n := nrN V) (fun k W _ q => i1 k W q) _ _ _ (by omega) q0))
end
