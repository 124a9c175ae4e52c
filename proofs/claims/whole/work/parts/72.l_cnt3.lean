/-! COUNT, of both sides -/
section
variable {u : Nat × Nat} {L : Nat} {xs : Nat → Int32} {X X' : Nat → Nat → Int32} {Z : Nat → Nat → Int64} {K : List Value → AH → Prop} {V W : Nat → Nat → Int32}
def cnF (X V : Nat → Nat → Int32) (q : Int32) : Int32 := if q = 0 then X 1 0 else if q = 1 then V 1 0 else if q = 2 then V 14 0 else if q = 3 then V 0 5 else if q = 4 then itr (ovS V) 0 (nrN V) 0 else if q = 5 then itr (ouS V) 0 (nlF V) 0 else if q = 6 then itr (waS V) 0 (nlF V) 0 else if q = 7 then itr (coS V) 0 (nrN V) 0 else if q = 8 then X 11 0 else if q = 9 then X 9 1 else -1
theorem n09 {x : Int32} (h0 : ¬ x = 0) (h1 : ¬ x = 1) (h2 : ¬ x = 2) (h3 : ¬ x = 3) (h4 : ¬ x = 4) (h5 : ¬ x = 5) (h6 : ¬ x = 6) (h7 : ¬ x = 7) (h8 : ¬ x = 8) (h9 : ¬ x = 9) : x.toInt < 0 ∨ 9 < x.toInt := by
  have a0 := mt Int32.toInt_inj.mp h0
  have a1 := mt Int32.toInt_inj.mp h1
  have a2 := mt Int32.toInt_inj.mp h2
  have a3 := mt Int32.toInt_inj.mp h3
  have a4 := mt Int32.toInt_inj.mp h4
  have a5 := mt Int32.toInt_inj.mp h5
  have a6 := mt Int32.toInt_inj.mp h6
  have a7 := mt Int32.toInt_inj.mp h7
  have a8 := mt Int32.toInt_inj.mp h8
  have a9 := mt Int32.toInt_inj.mp h9
  simp only [show (0 : Int32).toInt = 0 from rfl, show (1 : Int32).toInt = 1 from rfl, show (2 : Int32).toInt = 2 from rfl, show (3 : Int32).toInt = 3 from rfl, show (4 : Int32).toInt = 4 from rfl, show (5 : Int32).toInt = 5 from rfl, show (6 : Int32).toInt = 6 from rfl, show (7 : Int32).toInt = 7 from rfl, show (8 : Int32).toInt = 8 from rfl, show (9 : Int32).toInt = 9 from rfl] at a0 a1 a2 a3 a4 a5 a6 a7 a8 a9
  omega
theorem c_over (ho : VOK (wz X 25)) : Call 9 [.ref 26] (hX u L xs X Z) K ↔ K [.int (itr (ovS (wz X 25)) 0 (nrN (wz X 25)) 0)] (hX u L xs X Z) := by
  rw [hX_W (w := 25), show (26 : Nat) = 25 + 1 from rfl, en_9, w_9_0, w_9_1, w_9_2, w_9_3]
  exact l_over (Or.inl rfl) ho.1 ho.2.1 _ 0 0 (by omega)
theorem c_coins (ho : VOK (wz X 25)) : Call 10 [.ref 26] (hX u L xs X Z) K ↔ K [.int (itr (coS (wz X 25)) 0 (nrN (wz X 25)) 0)] (hX u L xs X Z) := by
  rw [hX_W (w := 25), show (26 : Nat) = 25 + 1 from rfl, en_10, w_10_0, w_10_1, w_10_2, w_10_3]
  exact l_coins (Or.inl rfl) ho.1 ho.2.1 _ 0 0 (by omega)
theorem c_out (ho : VOK (wz X 25)) : Call 17 [.ref 39] (hX u L xs X Z) K ↔ K [.int (itr (ouS (wz X 25)) 0 (nlF (wz X 25)) 0)] (hX u L xs X Z) := by
  rw [hX_W (w := 25), show (39 : Nat) = 25 + 14 from rfl, en_17, w_17_0, w_17_1, w_17_2, w_17_3]
  exact l_out (Or.inl rfl) ho.2.2.1 ho.2.2.2 _ 0 0 (by omega)
theorem c_wait (ho : VOK (wz X 25)) : Call 18 [.ref 39, .int (X 25 5)] (hX u L xs X Z) K ↔ K [.int (itr (waS (wz X 25)) 0 (nlF (wz X 25)) 0)] (hX u L xs X Z) := by
  have e : X 25 5 = wz X 25 0 5 := by rw [wz_at (by decide)]
  rw [e, hX_W (w := 25), show (39 : Nat) = 25 + 14 from rfl, en_18, w_18_0, w_18_1, w_18_2, w_18_3]
  exact l_wait (Or.inl rfl) ho.2.2.1 ho.2.2.2 _ 0 0 (by omega)
theorem c_count {q : Int32} (ho : VOK (wz X 25)) : Call 90 [.ref 0, .int q] (hX u L xs X Z) K ↔ K [.int (cnF X (wz X 25) q)] (hX u L xs X Z) := by
  have w1 : wz X 25 1 0 = X 26 0 := by rw [wz_at (by decide)]
  have w14 : wz X 25 14 0 = X 39 0 := by rw [wz_at (by decide)]
  have w0 : wz X 25 0 5 = X 25 5 := by rw [wz_at (by decide)]
  rw [en_90, w_90_0]
  unfold cnF
  by_cases c0 : q = 0
  · subst c0; rw [w_90_1_c0]; simp only [en_90, w_90_56, w_90_57, w_90_60, w_90_63, w_90_64, w_90_65, w_90_68, w_90_71, w_90_74, w_90_75, w_90_76, w_90_79, w_90_82, w_90_85, w_90_86, w_90_87, w_90_90, w_90_93, w_90_94, w_90_95, w_90_98, w_90_101, w_90_104, w_90_105, w_90_106, w_90_109, w_90_112, w_90_115, w_90_116, w_90_117, w_90_120, w_90_123, w_90_124, w_90_127, w_90_130, w_90_133, w_90_134, w_90_135, w_90_138, w_90_141, w_90_144, w_90_145, w_90_146, w_90_149, w_90_152, w_90_153, w_90_154, w_90_157, w_90_160, w_90_161, w_90_162, if_true]
  by_cases c1 : q = 1
  · subst c1; rw [w_90_1_c1]; simp only [en_90, w_90_56, w_90_57, w_90_60, w_90_63, w_90_64, w_90_65, w_90_68, w_90_71, w_90_74, w_90_75, w_90_76, w_90_79, w_90_82, w_90_85, w_90_86, w_90_87, w_90_90, w_90_93, w_90_94, w_90_95, w_90_98, w_90_101, w_90_104, w_90_105, w_90_106, w_90_109, w_90_112, w_90_115, w_90_116, w_90_117, w_90_120, w_90_123, w_90_124, w_90_127, w_90_130, w_90_133, w_90_134, w_90_135, w_90_138, w_90_141, w_90_144, w_90_145, w_90_146, w_90_149, w_90_152, w_90_153, w_90_154, w_90_157, w_90_160, w_90_161, w_90_162, c0, if_true, if_false, w1]
  by_cases c2 : q = 2
  · subst c2; rw [w_90_1_c2]; simp only [en_90, w_90_56, w_90_57, w_90_60, w_90_63, w_90_64, w_90_65, w_90_68, w_90_71, w_90_74, w_90_75, w_90_76, w_90_79, w_90_82, w_90_85, w_90_86, w_90_87, w_90_90, w_90_93, w_90_94, w_90_95, w_90_98, w_90_101, w_90_104, w_90_105, w_90_106, w_90_109, w_90_112, w_90_115, w_90_116, w_90_117, w_90_120, w_90_123, w_90_124, w_90_127, w_90_130, w_90_133, w_90_134, w_90_135, w_90_138, w_90_141, w_90_144, w_90_145, w_90_146, w_90_149, w_90_152, w_90_153, w_90_154, w_90_157, w_90_160, w_90_161, w_90_162, c0, c1, if_true, if_false, w14]
  by_cases c3 : q = 3
  · subst c3; rw [w_90_1_c3]; simp only [en_90, w_90_56, w_90_57, w_90_60, w_90_63, w_90_64, w_90_65, w_90_68, w_90_71, w_90_74, w_90_75, w_90_76, w_90_79, w_90_82, w_90_85, w_90_86, w_90_87, w_90_90, w_90_93, w_90_94, w_90_95, w_90_98, w_90_101, w_90_104, w_90_105, w_90_106, w_90_109, w_90_112, w_90_115, w_90_116, w_90_117, w_90_120, w_90_123, w_90_124, w_90_127, w_90_130, w_90_133, w_90_134, w_90_135, w_90_138, w_90_141, w_90_144, w_90_145, w_90_146, w_90_149, w_90_152, w_90_153, w_90_154, w_90_157, w_90_160, w_90_161, w_90_162, c0, c1, c2, if_true, if_false, w0]
  by_cases c4 : q = 4
  · subst c4; rw [w_90_1_c4]; simp only [en_90, w_90_56, w_90_57, w_90_60, w_90_63, w_90_64, w_90_65, w_90_68, w_90_71, w_90_74, w_90_75, w_90_76, w_90_79, w_90_82, w_90_85, w_90_86, w_90_87, w_90_90, w_90_93, w_90_94, w_90_95, w_90_98, w_90_101, w_90_104, w_90_105, w_90_106, w_90_109, w_90_112, w_90_115, w_90_116, w_90_117, w_90_120, w_90_123, w_90_124, w_90_127, w_90_130, w_90_133, w_90_134, w_90_135, w_90_138, w_90_141, w_90_144, w_90_145, w_90_146, w_90_149, w_90_152, w_90_153, w_90_154, w_90_157, w_90_160, w_90_161, w_90_162, c0, c1, c2, c3, if_true, if_false, c_over ho, ne_thr, app1, true_and]
  by_cases c5 : q = 5
  · subst c5; rw [w_90_1_c5]; simp only [en_90, w_90_56, w_90_57, w_90_60, w_90_63, w_90_64, w_90_65, w_90_68, w_90_71, w_90_74, w_90_75, w_90_76, w_90_79, w_90_82, w_90_85, w_90_86, w_90_87, w_90_90, w_90_93, w_90_94, w_90_95, w_90_98, w_90_101, w_90_104, w_90_105, w_90_106, w_90_109, w_90_112, w_90_115, w_90_116, w_90_117, w_90_120, w_90_123, w_90_124, w_90_127, w_90_130, w_90_133, w_90_134, w_90_135, w_90_138, w_90_141, w_90_144, w_90_145, w_90_146, w_90_149, w_90_152, w_90_153, w_90_154, w_90_157, w_90_160, w_90_161, w_90_162, c0, c1, c2, c3, c4, if_true, if_false, c_out ho, ne_thr, app1, true_and]
  by_cases c6 : q = 6
  · subst c6; rw [w_90_1_c6]; simp only [en_90, w_90_56, w_90_57, w_90_60, w_90_63, w_90_64, w_90_65, w_90_68, w_90_71, w_90_74, w_90_75, w_90_76, w_90_79, w_90_82, w_90_85, w_90_86, w_90_87, w_90_90, w_90_93, w_90_94, w_90_95, w_90_98, w_90_101, w_90_104, w_90_105, w_90_106, w_90_109, w_90_112, w_90_115, w_90_116, w_90_117, w_90_120, w_90_123, w_90_124, w_90_127, w_90_130, w_90_133, w_90_134, w_90_135, w_90_138, w_90_141, w_90_144, w_90_145, w_90_146, w_90_149, w_90_152, w_90_153, w_90_154, w_90_157, w_90_160, w_90_161, w_90_162, c0, c1, c2, c3, c4, c5, if_true, if_false, c_wait ho, ne_thr, app1, true_and]
  by_cases c7 : q = 7
  · subst c7; rw [w_90_1_c7]; simp only [en_90, w_90_56, w_90_57, w_90_60, w_90_63, w_90_64, w_90_65, w_90_68, w_90_71, w_90_74, w_90_75, w_90_76, w_90_79, w_90_82, w_90_85, w_90_86, w_90_87, w_90_90, w_90_93, w_90_94, w_90_95, w_90_98, w_90_101, w_90_104, w_90_105, w_90_106, w_90_109, w_90_112, w_90_115, w_90_116, w_90_117, w_90_120, w_90_123, w_90_124, w_90_127, w_90_130, w_90_133, w_90_134, w_90_135, w_90_138, w_90_141, w_90_144, w_90_145, w_90_146, w_90_149, w_90_152, w_90_153, w_90_154, w_90_157, w_90_160, w_90_161, w_90_162, c0, c1, c2, c3, c4, c5, c6, if_true, if_false, c_coins ho, ne_thr, app1, true_and]
  by_cases c8 : q = 8
  · subst c8; rw [w_90_1_c8]; simp only [en_90, w_90_56, w_90_57, w_90_60, w_90_63, w_90_64, w_90_65, w_90_68, w_90_71, w_90_74, w_90_75, w_90_76, w_90_79, w_90_82, w_90_85, w_90_86, w_90_87, w_90_90, w_90_93, w_90_94, w_90_95, w_90_98, w_90_101, w_90_104, w_90_105, w_90_106, w_90_109, w_90_112, w_90_115, w_90_116, w_90_117, w_90_120, w_90_123, w_90_124, w_90_127, w_90_130, w_90_133, w_90_134, w_90_135, w_90_138, w_90_141, w_90_144, w_90_145, w_90_146, w_90_149, w_90_152, w_90_153, w_90_154, w_90_157, w_90_160, w_90_161, w_90_162, c0, c1, c2, c3, c4, c5, c6, c7, if_true, if_false]
  by_cases c9 : q = 9
  · subst c9; rw [w_90_1_c9]; simp only [en_90, w_90_56, w_90_57, w_90_60, w_90_63, w_90_64, w_90_65, w_90_68, w_90_71, w_90_74, w_90_75, w_90_76, w_90_79, w_90_82, w_90_85, w_90_86, w_90_87, w_90_90, w_90_93, w_90_94, w_90_95, w_90_98, w_90_101, w_90_104, w_90_105, w_90_106, w_90_109, w_90_112, w_90_115, w_90_116, w_90_117, w_90_120, w_90_123, w_90_124, w_90_127, w_90_130, w_90_133, w_90_134, w_90_135, w_90_138, w_90_141, w_90_144, w_90_145, w_90_146, w_90_149, w_90_152, w_90_153, w_90_154, w_90_157, w_90_160, w_90_161, w_90_162, c0, c1, c2, c3, c4, c5, c6, c7, c8, if_true, if_false]
  · rw [w_90_1_df (n09 c0 c1 c2 c3 c4 c5 c6 c7 c8 c9)]
    simp only [en_90, w_90_56, w_90_57, w_90_60, w_90_63, w_90_64, w_90_65, w_90_68, w_90_71, w_90_74, w_90_75, w_90_76, w_90_79, w_90_82, w_90_85, w_90_86, w_90_87, w_90_90, w_90_93, w_90_94, w_90_95, w_90_98, w_90_101, w_90_104, w_90_105, w_90_106, w_90_109, w_90_112, w_90_115, w_90_116, w_90_117, w_90_120, w_90_123, w_90_124, w_90_127, w_90_130, w_90_133, w_90_134, w_90_135, w_90_138, w_90_141, w_90_144, w_90_145, w_90_146, w_90_149, w_90_152, w_90_153, w_90_154, w_90_157, w_90_160, w_90_161, w_90_162, c0, c1, c2, c3, c4, c5, c6, c7, c8, c9, if_false]
end
