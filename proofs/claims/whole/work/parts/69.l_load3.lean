/-! THE SIMPLE CALLS, OF BOTH SIDES: load -/
section
variable {u : Nat × Nat} {L : Nat} {xs : Nat → Int32} {X X' : Nat → Nat → Int32} {Z : Nat → Nat → Int64} {K : List Value → AH → Prop} {V W : Nat → Nat → Int32}
theorem op_load {kd a b mi : Int32} (hg : GI X) : Two u L xs 78 113 [.ref 0, .int kd, .int a, .int b, .int mi] [.ref 97, .int kd, .int a, .int b, .int mi] X Z := by
  have hg' := hg
  obtain ⟨⟨hs, hm, hw, hb, hf, nw, hn6, hn⟩, h46, htp⟩ := hg
  have r1 := hs.2.1.1
  have hp := hs.1.1
  have hp10 := hs.1.2.2.1
  have v1 := hw.1.2.2.1
  have v80 := hw.1.2.2.2
  unfold Two
  by_cases c : ldB X (wz X 25) kd a b mi
  · have c' := c
    obtain ⟨c1, c2, c3, c4, c5, c6⟩ := c'
    rw [v1, show (80 : Int32) = ic 80 from rfl, ic_lt (by omega) (by omega)] at c3
    have pl : ∀ p : Int32, ¬ p < 0 ∧ ¬ X 1 0 ≤ p → ∃ q, p = ic q ∧ q < 10 := fun p h => by
      obtain ⟨w1, w2⟩ := ic_of h.1
      have := h.2
      rw [hp, w1, ic_le (by omega) w2] at this
      exact ⟨_, w1, by omega⟩
    rw [c_load v1 c3 c]
    refine ⟨_, _, rfl, rfl, ?_⟩
    have hpw : ∀ x, x < 25 ∨ 49 ≤ x → (pw X 25 (adL (wz X 25) (nlF (wz X 25)) kd a b mi)) x = X x := fun x hx => pw_Fw (by omega)
    have wp : wz (pw X 25 (adL (wz X 25) (nlF (wz X 25)) kd a b mi)) 25 = adL (wz X 25) (nlF (wz X 25)) kd a b mi := wz_pw (fun x hx => by rw [adL_ne (by omega) (by omega) (by omega) (by omega) (by omega) (by omega) (by omega)]; exact wz_hi hx)
    generalize pw X 25 (adL (wz X 25) (nlF (wz X 25)) kd a b mi) = X1 at hpw wp
    have m1 : MR X1 (wz X 25) := MR_hi (fun x hx => hpw x (by omega)) hm
    rw [m_load (V := X) (n := nlF (wz X 25)) (by rw [hpw 97 (by decide)]; exact r1) (by rw [m1.2.2.1]; exact v1) c3 c1 c2 c4 c5 c6]
    refine ⟨rfl, _, Z, rfl, rfl, ?_⟩
    have m2 := alX_MR (kd := kd) (a := a) (b := b) (mi := mi) c3 (hf _ (Nat.le_refl _)) (MR_thr (v := 0) m1)
    generalize hY : alX (sv X1 97 0 0) (nlF (wz X 25)) kd a b mi = Y at m2
    have ca : ∀ x, x ≠ 97 → x ≠ 109 → x ≠ 110 → x ≠ 111 → x ≠ 112 → x ≠ 113 → Y x = X1 x := fun x h1 h2 h3 h4 h5 h6 => by rw [← hY]; unfold alX; rw [sv_a h1, sv_a h6, sv_a h5, sv_a h4, sv_a h3, sv_a h2, sv_a h1]
    have c97 : ∀ j, j ≠ 0 → j ≠ 18 → Y 97 j = X1 97 j := fun j h0 h18 => by rw [← hY]; unfold alX; rw [sv_i h18, sv_a (by decide), sv_a (by decide), sv_a (by decide), sv_a (by decide), sv_a (by decide), sv_i h0]
    have w25 : wz Y 25 = adL (wz X 25) (nlF (wz X 25)) kd a b mi := by
      rw [← wp]
      exact wz_of (fun x h1 h2 => ca x (by omega) (by omega) (by omega) (by omega) (by omega) (by omega))
    have lo : Lo X Y := fun x hx => by rw [ca x (by omega) (by omega) (by omega) (by omega) (by omega) (by omega)]; exact hpw x (by omega)
    obtain ⟨sY, npY⟩ := SI_sm lo (by rw [c97 10 (by decide) (by decide), hpw 97 (by decide)]) (by rw [c97 28 (by decide) (by decide), hpw 97 (by decide)]) (by rw [c97 38 (by decide) (by decide), hpw 97 (by decide)]) (fun x hx => by rw [ca x (by omega) (by omega) (by omega) (by omega) (by omega) (by omega)]; exact hpw x (by omega)) hs
    have wW : WI (npN X) (adL (wz X 25) (nlF (wz X 25)) kd a b mi) := by
      obtain ⟨qa, ea, ha⟩ := pl a c4
      obtain ⟨qb, eb, hb'⟩ := pl b c5
      rw [ea, eb]
      exact adL_WI rfl c3 ha hb' hw
    refine ⟨⟨sY, by rw [w25]; exact m2, by rw [w25, npY]; exact wW, fun i hi => by rw [w25, adL_ne (by decide) (by decide) (by decide) (by decide) (by decide) (by decide) (by decide)]; exact hb i hi, by rw [w25]; exact adL_FL rfl c3 hf, nw, hn6, by rw [w25, adL_ne (by decide) (by decide) (by decide) (by decide) (by decide) (by decide) (by decide)]; exact hn⟩, ?_, ?_⟩
    · rw [c97 46 (by decide) (by decide), hpw 97 (by decide), ca 0 (by decide) (by decide) (by decide) (by decide) (by decide) (by decide), hpw 0 (by decide)]; exact h46
    · exact TP_of (by rw [c97 2 (by decide) (by decide), hpw 97 (by decide)]) (by rw [ca 9 (by decide) (by decide) (by decide) (by decide) (by decide) (by decide), hpw 9 (by decide)]) (by rw [ca 10 (by decide) (by decide) (by decide) (by decide) (by decide) (by decide), hpw 10 (by decide)]) (by rw [ca 98 (by decide) (by decide) (by decide) (by decide) (by decide) (by decide), hpw 98 (by decide)]) htp
  · rw [c_load_no c]
    refine ⟨_, _, rfl, rfl, ?_⟩
    rw [m_load_no r1 hm v1 v80 c]
    exact ⟨rfl, _, Z, rfl, rfl, GI_thr hg'⟩
end
