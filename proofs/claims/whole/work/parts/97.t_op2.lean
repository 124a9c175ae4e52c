/-! TEXT: both answer alike -/
section
variable {u : Nat × Nat} {L : Nat} {xs : Nat → Int32} {X X' : Nat → Nat → Int32} {Z Z' : Nat → Nat → Int64} {K : List Value → AH → Prop}
theorem tx_fault {Y W : Nat → Nat → Int32} {m : LnS} {g : MG} {h : Nat} {f : Int32} {r : Int32 × PS × LnS} (hg : GI X) (hh : h < 2) (h38 : X 97 38 = ic h) (hc : txC X Y f r) (hf : f ≠ 0) (hm : txM (1 - h) Y W m g) (w38 : W 97 38 = ic h) (fo : FO (1 - h) Y m g) : GI W := by
  obtain ⟨c1, c2, c3, _⟩ := hc
  obtain ⟨m1, m2, m3, m4, m5, m6, m7, m8, m9, m10⟩ := hm
  have lo : ∀ a, a ≤ 15 → a ≠ 9 → a ≠ 10 → W a = X a := by
    intro a ha a1 a2
    rw [m1 a (by omega) (by omega) (by omega) (by omega)]
    by_cases q : a ≤ 8
    · exact c1 a (Or.inl q)
    · exact c3 hf a (by omega) ha
  have hi : ∀ a, 25 ≤ a → a ≠ 97 → a ≠ 99 → a ≠ 100 → (a < 120 ∨ 128 < a) → W a = X a := fun a l a1 a2 a3 a4 => by rw [m1 a a1 a2 a3 a4]; exact c1 a (Or.inr l)
  have y97 : Y 97 = X 97 := c1 97 (by omega)
  have hs := hg.1.1
  have hru := hs.1.2.2.2.2.2.2
  refine GI_tx hg (lo 0 (by omega) (by decide) (by decide)) (fun a ha => ?_) (fun j hj => ?_) ?_ ?_ ?_
  · rcases ha with q | q | q
    · exact lo a (by omega) (by omega) (by omega)
    · exact hi a (by omega) (by omega) (by omega) (by omega) (by omega)
    · exact hi a (by omega) (by omega) (by omega) (by omega) (by omega)
  · rw [m2 j (by omega) (by omega) (by omega) (by omega) (by omega) (by omega) (by omega) (by omega) (by omega), y97]
  · have e11 := lo 11 (by omega) (by decide) (by decide)
    have q := Ru_of e11 (lo 14 (by omega) (by decide) (by decide)) hru
    unfold lnN szN
    rw [e11]
    exact q
  · obtain ⟨h', hh', q38, t2, tl⟩ := hs.2.2
    have eh : h' = h := by rw [h38, ic_eq (by omega) (by omega)] at q38; omega
    subst eh
    have l24 := hru.2.1
    have e11 := lo 11 (by omega) (by decide) (by decide)
    have el : lnN W = lnN X := by unfold lnN; rw [e11]
    have ee : enN W = enN X := by funext l; unfold enN; rw [lo 14 (by omega) (by decide) (by decide)]
    have es : stN W = stN X := by funext l; unfold stN; rw [ee]
    have ek : kdF W = kdF X := by funext i; unfold kdF; rw [lo 15 (by omega) (by decide) (by decide)]
    have eu : nuF W = nuF X := by funext i; unfold nuF; rw [lo 15 (by omega) (by decide) (by decide)]
    have yx : ∀ a, 25 ≤ a → Y a = X a := fun a ha => c1 a (Or.inr ha)
    refine ⟨h', hh', w38, ?_, fun l hl => ?_⟩
    · rw [m5 h' (by omega), yx 120 (by omega), e11]; exact t2
    · rw [el] at hl
      obtain ⟨q1, q2, q3, a, q4, ⟨q5, q6⟩, q7⟩ := tl l hl
      obtain ⟨f1, f2, f3⟩ := fo.1 (24 * h' + l) (by omega)
      rw [es, ee, lo 12 (by omega) (by decide) (by decide), lo 13 (by omega) (by decide) (by decide), m6, m7, m8, f1, f2, f3, yx 121 (by omega), yx 122 (by omega), yx 123 (by omega)]
      refine ⟨q1, q2, q3, a, q4, ⟨q5, q6⟩, ?_⟩
      obtain ⟨p1, p2, p3, D, p4⟩ := q7
      have gg : ∀ i, 880 * h' ≤ i → i < 880 * h' + 880 → W 124 i = X 124 i ∧ W 125 i = X 125 i := by
        intro i i1 i2
        obtain ⟨g1, g2⟩ := fo.2 i (by omega)
        rw [m9, m10, g1, g2, yx 124 (by omega), yx 125 (by omega)]
        exact ⟨rfl, rfl⟩
      refine ⟨fun j hj => ?_, ?_, p3, D, ?_⟩
      · rw [ek, eu, (gg (a + j) (by omega) (by omega)).1, (gg (a + j) (by omega) (by omega)).2]
        exact p1 j hj
      · rw [(gg _ (by omega) (by omega)).1]; exact p2
      · unfold dpOK at p4 ⊢
        rw [ek]
        exact p4
  · refine ⟨?_, 0, by omega, ?_, fun i hi => absurd hi (Nat.not_lt_zero _)⟩
    · rw [m3, m1 9 (by decide) (by decide) (by decide) (by decide), c2]
    · rw [m1 9 (by decide) (by decide) (by decide) (by decide), c2]; rfl
theorem tx_new {Y W Y' : Nat → Nat → Int32} {m : LnS} {g : MG} {h i nt : Nat} {f : Int32} {r : Int32 × PS × LnS} (hg : GI X) (hh : h < 2) (hc : txC X Y f r) (hf : f = 0) (hm : txM (1 - h) Y W m g) (w38 : W 97 38 = ic (1 - h)) (ho : okσ nt r.2.1) (hi : i ≤ 24) (hL : LI2 (1 - h) i Y' r.2.1 r.2.2 m g) : GI W := by
  obtain ⟨c1, c2, _, c4⟩ := hc
  obtain ⟨d1, d2, d3, d4⟩ := c4 hf
  obtain ⟨m1, m2, m3, m4, m5, m6, m7, m8, m9, m10⟩ := hm
  obtain ⟨k1, k2, k3, k4, k5, k6, k7, k8, k9⟩ := hL
  have o2 := ho.2
  have wy : ∀ a, a ≤ 24 → W a = Y a := fun a ha => m1 a (by omega) (by omega) (by omega) (by omega)
  have lo : ∀ a, a ≤ 8 → W a = X a := fun a ha => by rw [wy a (by omega)]; exact c1 a (Or.inl ha)
  have hi' : ∀ a, 25 ≤ a → a ≠ 97 → a ≠ 99 → a ≠ 100 → (a < 120 ∨ 128 < a) → W a = X a := fun a l a1 a2 a3 a4 => by rw [m1 a a1 a2 a3 a4]; exact c1 a (Or.inr l)
  have y97 : Y 97 = X 97 := c1 97 (by omega)
  have w110 : W 11 0 = ic i := by rw [wy 11 (by omega), d1, k1]
  have w115 : W 11 5 = ic r.2.1.2.1 := by rw [wy 11 (by omega), d2]
  have eln : lnN W = i := by unfold lnN; rw [w110]; exact ic_clamp (by omega)
  have esz : szN W = r.2.1.2.1 := by unfold szN; rw [w115]; exact ic_clamp (by omega)
  have w14 : ∀ l, l < 24 → W 14 l = r.2.2.2.2.2 l := fun l hl => by rw [wy 14 (by omega)]; exact (d3 l hl).2.2
  have een : ∀ l, l < 24 → enN W l = enA r.2.2.2.2.2 l := fun l hl => by unfold enN enA; rw [w14 l hl]
  have est : ∀ l, l ≤ 24 → stN W l = stA r.2.2.2.2.2 l := by
    intro l hl
    unfold stN stA
    by_cases q : l = 0
    · rw [if_pos q, if_pos q]
    · rw [if_neg q, if_neg q, een _ (by omega)]
  refine GI_tx hg (lo 0 (by omega)) (fun a ha => ?_) (fun j hj => ?_) ?_ ?_ ?_
  · rcases ha with q | q | q
    · exact lo a (by omega)
    · exact hi' a (by omega) (by omega) (by omega) (by omega) (by omega)
    · exact hi' a (by omega) (by omega) (by omega) (by omega) (by omega)
  · rw [m2 j (by omega) (by omega) (by omega) (by omega) (by omega) (by omega) (by omega) (by omega) (by omega), y97]
  · rw [eln, esz]
    refine ⟨w110, hi, w115, o2, fun l hl => ?_⟩
    obtain ⟨q1, q2, q3, _⟩ := k8 l hl
    rw [een l (by omega), w14 l (by omega)]
    exact ⟨q1, q3⟩
  · refine ⟨1 - h, by omega, w38, ?_, fun l hl => ?_⟩
    · rw [m4, w110, k2]
    · rw [eln] at hl
      obtain ⟨q1, q2, q3, q4, q5, q6, q7⟩ := k8 l hl
      obtain ⟨x1, x2, x3⟩ := d3 l (by omega)
      rw [est l (by omega), een l (by omega), wy 12 (by omega), wy 13 (by omega), x1, x2, m6, m7, m8]
      refine ⟨q4, q5, q2, _, q6, ⟨by omega, by omega⟩, ?_⟩
      obtain ⟨p1, p2, p3, D, p4, p5, p6⟩ := q7
      have w15 : ∀ j, j < 800 → W 15 j = r.2.1.2.2 j := fun j hj => by rw [wy 15 (by omega)]; exact d4 j hj
      refine ⟨fun j hj => ?_, ?_, p3, D, p4, p5, fun j hj => ?_⟩
      · unfold kdF nuF
        rw [w15 _ (by omega), m9, m10]
        exact p1 j hj
      · rw [m9]; exact p2
      · unfold kdF
        rw [w15 _ (by omega)]
        exact p6 j hj
  · refine ⟨?_, 0, by omega, ?_, fun i hi => absurd hi (Nat.not_lt_zero _)⟩
    · rw [m3, wy 9 (by decide), c2]
    · rw [wy 9 (by decide), c2]; rfl
theorem op_text (hg : GI X) (hz : ∀ w, w < 11 → Z 102 w = wdV w) : Two u L xs 82 119 [.ref 0] [.ref 97] X Z := by
  obtain ⟨t1, n, t2, t3, t4⟩ := hg.2.2
  obtain ⟨h, hh, h38, _⟩ := hg.1.1.2.2
  have h10 : X 97 10 = X 1 0 := hg.1.1.2.1.1
  have h0 : ∀ i, (lexF (X 10) n 800 0).length ≤ i → kdL (X 10) (lexF (X 10) n 800 0) i = 0 ∧ nuL (X 10) (lexF (X 10) n 800 0) i = 0 := fun i hi => by
    unfold kdL nuL
    rw [if_neg (by omega), if_neg (by omega)]
    exact ⟨rfl, rfl⟩
  have hG : Gd (lexF (X 10) n 800 0).length (cE (kdL (X 10) (lexF (X 10) n 800 0)) (nuL (X 10) (lexF (X 10) n 800 0))) := ok_E h0
  have hW : Pw 0 (cE (kdL (X 10) (lexF (X 10) n 800 0)) (nuL (X 10) (lexF (X 10) n 800 0))) := pr_expL (pr_sum (pr_P 5)) 800 0
  have hF : Fr5 (cE (kdL (X 10) (lexF (X 10) n 800 0)) (nuL (X 10) (lexF (X 10) n 800 0))) := f5_E
  have hE : ∀ X', CE (kdL (X 10) (lexF (X 10) n 800 0)) (nuL (X 10) (lexF (X 10) n 800 0)) (lexF (X 10) n 800 0).length X' → Rd u L xs X' Z (lexF (X 10) n 800 0).length 30 0 (cE (kdL (X 10) (lexF (X 10) n 800 0)) (nuL (X 10) (lexF (X 10) n 800 0))) := fun X' hc => r_E hc
  have hS : ∀ Y' Z', ME (kdL (X 10) (lexF (X 10) n 800 0)) (nuL (X 10) (lexF (X 10) n 800 0)) (lexF (X 10) n 800 0).length (1 - h) Y' Z' → SimA u L xs Y' Z' (lexF (X 10) n 800 0).length (1 - h) (cE (kdL (X 10) (lexF (X 10) n 800 0)) (nuL (X 10) (lexF (X 10) n 800 0))) := fun Y' Z' hm m b c0 O0 V0 S0 l1 Q hcb => sim_E (ME_m hm) h0 hcb
  generalize cE (kdL (X 10) (lexF (X 10) n 800 0)) (nuL (X 10) (lexF (X 10) n 800 0)) = E at hG hW hF hE hS
  unfold Two
  refine c_text t2 (fun i hi => (t4 i hi).2) t3 rfl hE hG (fun S PL WA EN Y o1 o2 tx => ⟨_, _, rfl, rfl, ?_⟩)
  have yx : ∀ a, 25 ≤ a → Y a = X a := fun a ha => tx.1 a (Or.inr ha)
  refine m_text (n := n) (T := X 10) (np := X 1 0) (by rw [yx 97 (by omega)]; exact h10) t2 (by rw [yx 97 (by omega), t1, t3]) (fun i hi => by rw [yx 98 (by omega)]; exact (t4 i hi).1) hh (by rw [yx 97 (by omega)]; exact h38) hz hS hG hW hF o1 (fun Z' W m g z102 tm kf ks => ⟨rfl, W, Z', rfl, z102, ?_⟩)
  by_cases c : ansF (lexF (X 10) n 800 0) n (cRd (kdL (X 10) (lexF (X 10) n 800 0)) (nuL (X 10) (lexF (X 10) n 800 0)) E (X 1 0) 25 0 (0, 0, S) (0, PL, WA, EN)) = 0
  · obtain ⟨w38, i', hi', Y', hL⟩ := ks c
    exact tx_new hg hh tx c tm w38 o1 hi' hL
  · obtain ⟨w38, fo⟩ := kf c
    exact tx_fault hg hh h38 tx c tm w38 fo
end
