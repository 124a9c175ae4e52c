/-! THE LAW BEGINS: behind the constructors all is in order -/
def X00 (a : Nat) : Nat → Int32 := match a with
  | 0 => fun j => if j = 7 then -1 else 0
  | 1 => fun j => if j = 0 then 1 else 0
  | 97 => fun j => if j = 10 then 1 else if j = 46 then -1 else 0
  | _ => fun _ => 0
/-- the heap ahead of the law: nothing of ours, and the script -/
def F00 (L : Nat) (xs : Nat → Int32) : Nat → AE := fun a => if a = 1000000 then .inl (.int, L, .inl xs) else shp a (X00 a) (fun _ => 0)
def X01 (f g : Nat → Int32) : Nat → Nat → Int32 := fun a => if a = 7 then f else if a = 115 then g else if a = 104 then upd (fun _ => 0) 0 1 else X00 a
def Z01 : Nat → Nat → Int64 := fun a => if a = 102 then wdI else fun _ => 0
theorem F01 {L : Nat} {xs f g : Nat → Int32} : va_up (va_up (va_up (va_up (F00 L xs) 7 (.inl (.int, 8, .inl f))) 102 (.inl (.long, 11, .inr (.inl wdI)))) 115 (.inl (.int, 8, .inl g))) 104 (.inl (.boolean, 10, .inl (upd (fun _ => 0) 0 1))) = fun a => if a = 1000000 then .inl (.int, L, .inl xs) else shp a (X01 f g a) (Z01 a) := by
  funext a
  by_cases a4 : a = 104
  · subst a4; rfl
  · by_cases a5 : a = 115
    · subst a5; rfl
    · by_cases a2 : a = 102
      · subst a2; rfl
      · by_cases a7 : a = 7
        · subst a7; rfl
        · rw [vu_ne a4, vu_ne a5, vu_ne a2, vu_ne a7]
          unfold F00 X01 Z01
          rw [if_neg a7, if_neg a5, if_neg a4, if_neg a2]
theorem sI_na {k pc c s n : Nat} {t : ArrayType} {e : AE} {F : Nat → AE} {ls st : List Value} (hc9 : c < 999999) (hn : n ≤ 100000) (he : arr0 t n = some e) : sI k (.newarray t) pc ls (.int (ic n) :: st) ((c, s), c, F) = some (pc + 2, ls, .ref c :: st, ((c + 1, s + n), c + 1, va_up F c e)) := by
  show (if c = c ∧ c < 999999 ∧ ¬ ic n < 0 ∧ (ic n).toNatClampNeg ≤ 100000 then (arr0 t (ic n).toNatClampNeg).map _ else none) = _
  rw [ic_clamp (by omega), if_pos ⟨rfl, hc9, by rw [ic_neg (by omega)]; simp, hn⟩, he]
  rfl
section
variable {L : Nat} {xs : Nat → Int32} {Q : List Value → AH → Prop}
theorem law_start (hQ : ∀ f g, (∀ j, j < 8 → f j = -1) → (∀ j, j < 8 → g j = -1) → WP 149 0 23 [.ref 1000000, .ref 0, .ref 97, .ref 130, .int 0, poi, poi] [] (hX (131, 16689) L xs (X01 f g) Z01) Q) : Call 149 [.ref 1000000] ((0, 0), 0, F00 L xs) Q := by
  rw [en_149]
  rw [WP_to (y := (3, [.ref 1000000, poi, poi, poi, poi, poi, poi], [.ref 0], oS 1 8 (F00 L xs) 0 7 [.null, .null, .null, .null, .null, .null, .null, .int 0])) (show decode (mCode 149) 0 = .ok (.new 8, 3) by decide +kernel) rfl rfl rfl rfl rfl]
  dsimp only
  rw [w_149_3]
  refine (w_callI (k' := 75) (as := [.ref 0]) (r := [.ref 0]) (show decode (mCode 149) 4 = .ok (.invokespecial 18, 3) by decide +kernel) rfl rfl rfl (by decide) rfl rfl rfl (by decide) (by show rk 75 0 < rk 149 0; decide +kernel)).2 ?_
  refine ini_0 rfl rfl rfl rfl rfl rfl rfl rfl rfl rfl rfl rfl rfl rfl rfl rfl rfl rfl rfl rfl rfl rfl rfl rfl rfl rfl rfl rfl rfl rfl rfl rfl rfl rfl rfl rfl rfl rfl rfl rfl rfl rfl rfl rfl rfl rfl rfl rfl rfl rfl rfl rfl rfl rfl rfl rfl rfl rfl rfl rfl rfl rfl rfl rfl rfl rfl rfl rfl rfl rfl rfl rfl rfl rfl rfl rfl rfl rfl rfl rfl rfl rfl rfl rfl rfl rfl rfl rfl rfl rfl rfl rfl rfl rfl rfl rfl rfl (fun f hf => ⟨by simp, ?_⟩)
  rw [app0, w_149_7]
  generalize hG : va_up (F00 L xs) 7 (.inl (.int, 8, .inl f)) = G
  have g_97 : G 97 = .inr (8, [.int 0, .ref 98, .int 0, .int 0, .ref 99, .ref 100, .ref 101, .int 0, .int 0, .ref 102, .int 1, .ref 103, .ref 104, .int 0, .ref 105, .ref 106, .ref 107, .ref 108, .int 0, .ref 109, .ref 110, .ref 111, .ref 112, .int 0, .ref 113, .ref 114, .ref 115, .ref 116, .int 0, .ref 117, .ref 118, .ref 119, .ref 120, .ref 121, .ref 122, .ref 123, .ref 124, .ref 125, .int 0, .int 0, .int 0, .int 0, .ref 126, .ref 127, .ref 128, .ref 129, .int (-1)]) := by rw [← hG]; rfl
  have g_98 : G 98 = .inl (.int, 800, .inl (fun _ => 0)) := by rw [← hG]; rfl
  have g_99 : G 99 = .inl (.int, 802, .inl (fun _ => 0)) := by rw [← hG]; rfl
  have g_100 : G 100 = .inl (.int, 802, .inl (fun _ => 0)) := by rw [← hG]; rfl
  have g_101 : G 101 = .inl (.long, 802, .inr (.inl (fun _ => 0))) := by rw [← hG]; rfl
  have g_102 : G 102 = .inl (.long, 11, .inr (.inl (fun _ => 0))) := by rw [← hG]; rfl
  have g_103 : G 103 = .inl (.int, 10, .inl (fun _ => 0)) := by rw [← hG]; rfl
  have g_104 : G 104 = .inl (.boolean, 10, .inl (fun _ => 0)) := by rw [← hG]; rfl
  have g_105 : G 105 = .inl (.boolean, 12, .inl (fun _ => 0)) := by rw [← hG]; rfl
  have g_106 : G 106 = .inl (.int, 12, .inl (fun _ => 0)) := by rw [← hG]; rfl
  have g_107 : G 107 = .inl (.int, 12, .inl (fun _ => 0)) := by rw [← hG]; rfl
  have g_108 : G 108 = .inl (.int, 12, .inl (fun _ => 0)) := by rw [← hG]; rfl
  have g_109 : G 109 = .inl (.int, 80, .inl (fun _ => 0)) := by rw [← hG]; rfl
  have g_110 : G 110 = .inl (.int, 80, .inl (fun _ => 0)) := by rw [← hG]; rfl
  have g_111 : G 111 = .inl (.int, 80, .inl (fun _ => 0)) := by rw [← hG]; rfl
  have g_112 : G 112 = .inl (.int, 80, .inl (fun _ => 0)) := by rw [← hG]; rfl
  have g_113 : G 113 = .inl (.int, 392, .inl (fun _ => 0)) := by rw [← hG]; rfl
  have g_114 : G 114 = .inl (.int, 392, .inl (fun _ => 0)) := by rw [← hG]; rfl
  have g_115 : G 115 = .inl (.int, 8, .inl (fun _ => 0)) := by rw [← hG]; rfl
  have g_116 : G 116 = .inl (.int, 8, .inl (fun _ => 0)) := by rw [← hG]; rfl
  have g_117 : G 117 = .inl (.int, 20, .inl (fun _ => 0)) := by rw [← hG]; rfl
  have g_118 : G 118 = .inl (.int, 20, .inl (fun _ => 0)) := by rw [← hG]; rfl
  have g_119 : G 119 = .inl (.int, 20, .inl (fun _ => 0)) := by rw [← hG]; rfl
  have g_120 : G 120 = .inl (.int, 2, .inl (fun _ => 0)) := by rw [← hG]; rfl
  have g_121 : G 121 = .inl (.int, 48, .inl (fun _ => 0)) := by rw [← hG]; rfl
  have g_122 : G 122 = .inl (.int, 48, .inl (fun _ => 0)) := by rw [← hG]; rfl
  have g_123 : G 123 = .inl (.int, 48, .inl (fun _ => 0)) := by rw [← hG]; rfl
  have g_124 : G 124 = .inl (.int, 1760, .inl (fun _ => 0)) := by rw [← hG]; rfl
  have g_125 : G 125 = .inl (.int, 1760, .inl (fun _ => 0)) := by rw [← hG]; rfl
  have g_126 : G 126 = .inl (.int, 7, .inl (fun _ => 0)) := by rw [← hG]; rfl
  have g_127 : G 127 = .inl (.int, 7, .inl (fun _ => 0)) := by rw [← hG]; rfl
  have g_128 : G 128 = .inl (.int, 7, .inl (fun _ => 0)) := by rw [← hG]; rfl
  have g_129 : G 129 = .inl (.int, 880, .inl (fun _ => 0)) := by rw [← hG]; rfl
  have g_130 : G 130 = .inl (.long, 1, .inr (.inl (fun _ => 0))) := by rw [← hG]; rfl
  rw [WP_to (y := (11, [.ref 1000000, .ref 0, poi, poi, poi, poi, poi], [.ref 97], oS 98 7656 G 97 8 [.int 0, .null, .int 0, .int 0, .null, .null, .null, .int 0, .int 0, .null, .int 0, .null, .null, .int 0, .null, .null, .null, .null, .int 0, .null, .null, .null, .null, .int 0, .null, .null, .null, .null, .int 0, .null, .null, .null, .null, .null, .null, .null, .null, .null, .int 0, .int 0, .int 0, .int 0, .null, .null, .null, .null, .int 0])) (show decode (mCode 149) 8 = .ok (.new 19, 3) by decide +kernel) rfl rfl rfl rfl rfl]
  dsimp only
  rw [w_149_11]
  refine (w_callI (k' := 96) (as := [.ref 97]) (r := [.ref 97]) (show decode (mCode 149) 12 = .ok (.invokespecial 21, 3) by decide +kernel) rfl rfl rfl (by decide) rfl rfl rfl (by decide) (by show rk 96 0 < rk 149 0; decide +kernel)).2 ?_
  refine ini_97 g_97 g_98 g_99 g_100 g_101 g_102 g_103 g_104 g_105 g_106 g_107 g_108 g_109 g_110 g_111 g_112 g_113 g_114 g_115 g_116 g_117 g_118 g_119 g_120 g_121 g_122 g_123 g_124 g_125 g_126 g_127 g_128 g_129 (fun g hg => ⟨by simp, ?_⟩)
  rw [app0, w_149_15, w_149_16]
  rw [← hG, F01]
  rw [WP_to (y := (19, [.ref 1000000, .ref 0, .ref 97, poi, poi, poi, poi], [.ref 130], hX (131, 16689) L xs (X01 f g) Z01)) (show decode (mCode 149) 17 = .ok (.newarray .long, 2) by decide +kernel) rfl rfl rfl rfl ?_]
  · dsimp only
    rw [w_149_19, w_149_20, w_149_21]
    exact hQ f g hf hg
  · have e : va_up (fun a => if a = 1000000 then .inl (.int, L, .inl xs) else shp a (X01 f g a) (Z01 a)) 130 (.inl (.long, 1, .inr (.inl (fun _ => 0)))) = fun a => if a = 1000000 then .inl (.int, L, .inl xs) else shp a (X01 f g a) (Z01 a) := vu_same rfl
    rw [show (1 : Int32) = ic 1 from rfl, sI_na (by decide) (by decide) (show arr0 .long 1 = some (.inl (.long, 1, .inr (.inl (fun _ => 0)))) from rfl), e]
    rfl
end
theorem GI_0 {f g : Nat → Int32} (hf : ∀ j, j < 8 → f j = -1) (hg : ∀ j, j < 8 → g j = -1) : GI (X01 f g) := by
  have n6 : ∀ k, wz (X01 f g) 25 6 k = 0 := fun k => rfl
  refine ⟨⟨⟨?_, ?_, ?_⟩, ?_, ⟨?_, ?_, ?_, ?_⟩, ?_, ?_, 0, by omega, rfl⟩, rfl, ?_⟩
  · refine ⟨rfl, (show (1 : Nat) ≤ 1 by decide), (show (1 : Nat) ≤ 10 by decide), rfl, (show (0 : Nat) ≤ 20 by decide), fun s hs => ?_, rfl, (show (0 : Nat) ≤ 24 by decide), rfl, (show (0 : Nat) ≤ 800 by decide), fun l hl => ?_⟩
    · exact absurd (show s + 1 < 1 from hs) (by omega)
    · exact absurd (show l < 0 from hl) (by omega)
  · refine ⟨rfl, rfl, fun i _ => rfl, fun i h1 h2 => ?_, fun i hi => ?_, fun i _ => rfl, fun i _ => rfl, fun i _ => rfl, fun i _ => rfl⟩
    · show upd (fun _ => 0) 0 1 i = 0
      simp only [upd]
      rw [if_neg (by omega)]
    · show g i = f i
      rw [hf i hi, hg i hi]
  · exact ⟨0, by omega, rfl, rfl, fun l hl => absurd (show l < 0 from hl) (by omega)⟩
  · refine ⟨rfl, rfl, rfl, fun a i hi => ?_⟩
    have ha := msz_lt hi
    rcases (show a = 0 ∨ a = 1 ∨ a = 2 ∨ a = 3 ∨ a = 4 ∨ a = 5 ∨ a = 6 ∨ a = 7 ∨ a = 8 ∨ a = 9 ∨ a = 10 ∨ a = 11 ∨ a = 12 ∨ a = 13 ∨ a = 14 ∨ a = 15 ∨ a = 16 ∨ a = 17 ∨ a = 18 ∨ a = 19 ∨ a = 20 ∨ a = 21 ∨ a = 22 by omega) with rfl | rfl | rfl | rfl | rfl | rfl | rfl | rfl | rfl | rfl | rfl | rfl | rfl | rfl | rfl | rfl | rfl | rfl | rfl | rfl | rfl | rfl | rfl <;> first | rfl | exact absurd hi (Nat.not_lt_zero _)
  · exact ⟨rfl, (show (0 : Nat) ≤ 12 by decide), rfl, (show (0 : Nat) ≤ 80 by decide)⟩
  · refine ⟨fun h => absurd (show 0 < 0 from h) (by omega), fun k hk => ⟨fun h => ?_, fun h => ?_, fun _ => rfl⟩, fun k _ _ => rfl⟩
    · rw [n6] at h
      exact absurd h (by decide)
    · rw [n6] at h
      exact absurd h (by decide)
  · intro k hk
    exact absurd (show k < 0 from hk) (by omega)
  · intro r hr
    exact ⟨rfl, rfl⟩
  · intro i hi
    exact Or.inl rfl
  · intro k hk
    rfl
  · exact ⟨rfl, 0, by omega, rfl, fun i hi => absurd hi (Nat.not_lt_zero _)⟩
theorem ZW_0 : ∀ w, w < 11 → Z01 102 w = wdV w := by
  have : ∀ w : Fin 11, Z01 102 w.1 = wdV w.1 := by decide +kernel
  exact fun w hw => this ⟨w, hw⟩
