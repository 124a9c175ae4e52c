/-! ONE INSTRUCTION OF THE SMALL MACHINE IS ONE OF THE JVM'S -/
def Cx (Γ : GT) (p : Program) (s : State) (m : MethodId) (args : Array Value) (meth : Method) (c : Code) (k : Nat) : Prop := p.tables.exec = Jvm.exec ∧ c.code = mCode k ∧ c.maxLocals = mML k ∧ s.vm.findClass (clsN (mC k)) = some m.cls ∧ (∀ w ∈ lw_g, w.before args s = true) ∧ (mKd k = 2 → meth.name = "<init>") ∧ E0 Γ s ∧ (Γ.2.2.2.2 = .null ∨ ∃ t, Γ.2.2.2.2 = .ref t)
def Wst (Γ : GT) (p : Program) (l : Launch) (e : Env) (R : Room) (s : State) (m : MethodId) (args : Array Value) (below : List Frame) (meth : Method) (c : Code) (Q : State → Prop) (k : Nat) (z : Nat × Nat) (pc : Nat) (ls st : List Value) (h : AH) : Prop := ∀ (H : Heap) (locs : List Loc) (lsC : Array Slot), HRel Γ h H → va_S (AB Γ) s.heap H locs → LRel Γ k ls lsC → z.1 ≤ h.1.1 → z.2 ≤ h.1.2 → W p l e R s m args below meth c H locs (h.1.1 - z.1) (h.1.2 - z.2) Q (F0 m pc lsC (st.map (tr Γ)))
theorem stk_ref {Γ : GT} {a q : Nat} {st : List Value} (h : rb Γ a = .ref q) : (Value.ref a :: st).map (tr Γ) = .ref q :: st.map (tr Γ) := by rw [List.map_cons, tr_ref, h]
theorem sto1_lt {Γ : GT} {k : Nat} {ls l : List Value} {lsC : Array Slot} {n : Nat} {v : Value} (hL : LRel Γ k ls lsC) (h : sto1 k ls n v = some l) : n < mML k := by
  unfold sto1 at h
  split at h
  · rename_i hc
    rw [← hL.2.2.1]
    exact hc.1
  · cases h
theorem sto2_lt {Γ : GT} {k : Nat} {ls l : List Value} {lsC : Array Slot} {n : Nat} {v : Int64} (hL : LRel Γ k ls lsC) (h : sto2 k ls n v = some l) : n + 1 < mML k := by
  unfold sto2 at h
  split at h
  · rename_i hc
    rw [← hL.2.2.1]
    exact hc.1
  · cases h
theorem P_low {Γ : GT} {h : AH} {H : Heap} (hP : va_P Γ.2.2.1 vwCl (wsO Γ h) H) (h0 : 0 < h.2.1) : Γ.1.1 + h.2.1 ≤ H.size := by
  have h1 := (hP (h.2.1 - 1) _ (ws_at (by omega))).lt
  simp only at h1
  omega
/-- a cell of ours changed -/
theorem H_set {Γ : GT} {h : AH} {H H1 : Heap} {a : Nat} {e : AE} (ha : a < h.2.1) (h0 : HRel Γ h H) (hP : va_P Γ.2.2.1 vwCl ((wsO Γ h).set a (Γ.1.1 + a, enE Γ e)) H1) : HRel Γ (setC h a e) H1 := by
  rw [ws_set ha] at hP
  obtain ⟨-, -, h3, h4⟩ := h0
  refine ⟨hP, P_low (h := setC h a e) hP (Nat.lt_of_le_of_lt (Nat.zero_le _) ha), ?_, h4⟩
  show va_up h.2.2 a e 1000000 = _
  unfold va_up
  rw [if_neg (by omega)]
  exact h3
section
variable {p : Program} {l : Launch} {e : Env} {R : Room} {s : State} {m : MethodId} {args : Array Value} {below : List Frame} {meth : Method} {c : Code} {Q : State → Prop} {Γ : GT} {k : Nat} {z : Nat × Nat} {pc : Nat} {ls st : List Value} {h : AH}
theorem s_iconst (hC : Cx Γ p s m args meth c k) {n : Int} (hd : decode (mCode k) pc = .ok (.iconst n, 1)) (kk : Wst Γ p l e R s m args below meth c Q k z (pc + 1) ls (.int (Int32.ofInt n) :: st) h) : Wst Γ p l e R s m args below meth c Q k z pc ls st h := by
  obtain ⟨hx, hb, hml, hown, hts, hin, hE, hΓ⟩ := hC
  intro H locs lsC hH hS hL hz1 hz2
  exact lv_iconst hx hb hd rfl (kk H locs lsC hH hS hL hz1 hz2)
theorem s_bipush (hC : Cx Γ p s m args meth c k) {n : Int} (hd : decode (mCode k) pc = .ok (.bipush n, 2)) (kk : Wst Γ p l e R s m args below meth c Q k z (pc + 2) ls (.int (Int8.ofInt n).toInt32 :: st) h) : Wst Γ p l e R s m args below meth c Q k z pc ls st h := by
  obtain ⟨hx, hb, hml, hown, hts, hin, hE, hΓ⟩ := hC
  intro H locs lsC hH hS hL hz1 hz2
  exact lv_bipush hx hb hd rfl (kk H locs lsC hH hS hL hz1 hz2)
theorem s_sipush (hC : Cx Γ p s m args meth c k) {n : Int} (hd : decode (mCode k) pc = .ok (.sipush n, 3)) (kk : Wst Γ p l e R s m args below meth c Q k z (pc + 3) ls (.int (Int16.ofInt n).toInt32 :: st) h) : Wst Γ p l e R s m args below meth c Q k z pc ls st h := by
  obtain ⟨hx, hb, hml, hown, hts, hin, hE, hΓ⟩ := hC
  intro H locs lsC hH hS hL hz1 hz2
  exact lv_sipush hx hb hd rfl (kk H locs lsC hH hS hL hz1 hz2)
theorem s_lconst (hC : Cx Γ p s m args meth c k) {n : Fin 2} (hd : decode (mCode k) pc = .ok (.lconst n, 1)) (kk : Wst Γ p l e R s m args below meth c Q k z (pc + 1) ls (.long (Int64.ofNat (n : Nat)) :: st) h) : Wst Γ p l e R s m args below meth c Q k z pc ls st h := by
  obtain ⟨hx, hb, hml, hown, hts, hin, hE, hΓ⟩ := hC
  intro H locs lsC hH hS hL hz1 hz2
  exact lv_lconst hx hb hd rfl (kk H locs lsC hH hS hL hz1 hz2)
theorem s_iload_n (hC : Cx Γ p s m args meth c k) {n : Fin 4} {v : Int32} (hv : getI ls (n : Nat) = some v) (hd : decode (mCode k) pc = .ok (.iload_n n, 1)) (kk : Wst Γ p l e R s m args below meth c Q k z (pc + 1) ls (.int v :: st) h) : Wst Γ p l e R s m args below meth c Q k z pc ls st h := by
  obtain ⟨hx, hb, hml, hown, hts, hin, hE, hΓ⟩ := hC
  intro H locs lsC hH hS hL hz1 hz2
  exact lv_iload_n hx hb hd rfl (L_int hL hv) (kk H locs lsC hH hS hL hz1 hz2)
theorem s_iload (hC : Cx Γ p s m args meth c k) {n : Nat} {v : Int32} (hv : getI ls n = some v) (hd : decode (mCode k) pc = .ok (.iload n, 2)) (kk : Wst Γ p l e R s m args below meth c Q k z (pc + 2) ls (.int v :: st) h) : Wst Γ p l e R s m args below meth c Q k z pc ls st h := by
  obtain ⟨hx, hb, hml, hown, hts, hin, hE, hΓ⟩ := hC
  intro H locs lsC hH hS hL hz1 hz2
  exact lv_iload hx hb hd (L_int hL hv) (kk H locs lsC hH hS hL hz1 hz2)
theorem s_lload_n (hC : Cx Γ p s m args meth c k) {n : Fin 4} {v : Int64} (hv : getL ls (n : Nat) = some v) (hd : decode (mCode k) pc = .ok (.lload_n n, 1)) (kk : Wst Γ p l e R s m args below meth c Q k z (pc + 1) ls (.long v :: st) h) : Wst Γ p l e R s m args below meth c Q k z pc ls st h := by
  obtain ⟨hx, hb, hml, hown, hts, hin, hE, hΓ⟩ := hC
  intro H locs lsC hH hS hL hz1 hz2
  exact lv_lload_n hx hb hd rfl (L_long hL hv) (kk H locs lsC hH hS hL hz1 hz2)
theorem s_lload (hC : Cx Γ p s m args meth c k) {n : Nat} {v : Int64} (hv : getL ls n = some v) (hd : decode (mCode k) pc = .ok (.lload n, 2)) (kk : Wst Γ p l e R s m args below meth c Q k z (pc + 2) ls (.long v :: st) h) : Wst Γ p l e R s m args below meth c Q k z pc ls st h := by
  obtain ⟨hx, hb, hml, hown, hts, hin, hE, hΓ⟩ := hC
  intro H locs lsC hH hS hL hz1 hz2
  exact lv_lload hx hb hd (L_long hL hv) (kk H locs lsC hH hS hL hz1 hz2)
theorem s_aload_n (hC : Cx Γ p s m args meth c k) {n : Fin 4} {a : Nat} (hv : getR ls (n : Nat) = some a) (hd : decode (mCode k) pc = .ok (.aload_n n, 1)) (kk : Wst Γ p l e R s m args below meth c Q k z (pc + 1) ls (.ref a :: st) h) : Wst Γ p l e R s m args below meth c Q k z pc ls st h := by
  obtain ⟨hx, hb, hml, hown, hts, hin, hE, hΓ⟩ := hC
  intro H locs lsC hH hS hL hz1 hz2
  obtain ⟨q, hq, hl⟩ := L_ref hL hv
  have K := kk H locs lsC hH hS hL hz1 hz2
  rw [stk_ref hq] at K
  exact lv_aload_n hx hb hd rfl hl K
theorem s_aload (hC : Cx Γ p s m args meth c k) {n : Nat} {a : Nat} (hv : getR ls n = some a) (hd : decode (mCode k) pc = .ok (.aload n, 2)) (kk : Wst Γ p l e R s m args below meth c Q k z (pc + 2) ls (.ref a :: st) h) : Wst Γ p l e R s m args below meth c Q k z pc ls st h := by
  obtain ⟨hx, hb, hml, hown, hts, hin, hE, hΓ⟩ := hC
  intro H locs lsC hH hS hL hz1 hz2
  obtain ⟨q, hq, hl⟩ := L_ref hL hv
  have K := kk H locs lsC hH hS hL hz1 hz2
  rw [stk_ref hq] at K
  exact lv_aload hx hb hd  hl K
theorem s_istore_n (hC : Cx Γ p s m args meth c k) {n : Fin 4} {v : Int32} {l2 : List Value} (hv : sto1 k ls (n : Nat) (.int v) = some l2) (hd : decode (mCode k) pc = .ok (.istore_n n, 1)) (kk : Wst Γ p l e R s m args below meth c Q k z (pc + 1) l2 (st) h) : Wst Γ p l e R s m args below meth c Q k z pc ls (.int v :: st) h := by
  obtain ⟨hx, hb, hml, hown, hts, hin, hE, hΓ⟩ := hC
  intro H locs lsC hH hS hL hz1 hz2
  exact lv_istore_n hx hb hd rfl (L_has hL) (sto1_lt hL hv) rfl (fun lsD hD => kk H locs lsD hH hS (L_sto1 hΓ hL hv rfl hD).1 hz1 hz2)
theorem s_istore (hC : Cx Γ p s m args meth c k) {n : Nat} {v : Int32} {l2 : List Value} (hv : sto1 k ls n (.int v) = some l2) (hd : decode (mCode k) pc = .ok (.istore n, 2)) (kk : Wst Γ p l e R s m args below meth c Q k z (pc + 2) l2 (st) h) : Wst Γ p l e R s m args below meth c Q k z pc ls (.int v :: st) h := by
  obtain ⟨hx, hb, hml, hown, hts, hin, hE, hΓ⟩ := hC
  intro H locs lsC hH hS hL hz1 hz2
  exact lv_istore hx hb hd (L_has hL) (sto1_lt hL hv) rfl (fun lsD hD => kk H locs lsD hH hS (L_sto1 hΓ hL hv rfl hD).1 hz1 hz2)
theorem s_astore_n (hC : Cx Γ p s m args meth c k) {n : Fin 4} {a : Nat} {l2 : List Value} (ha : a < 1000020) (hv : sto1 k ls (n : Nat) (.ref a) = some l2) (hd : decode (mCode k) pc = .ok (.astore_n n, 1)) (kk : Wst Γ p l e R s m args below meth c Q k z (pc + 1) l2 (st) h) : Wst Γ p l e R s m args below meth c Q k z pc ls (.ref a :: st) h := by
  obtain ⟨hx, hb, hml, hown, hts, hin, hE, hΓ⟩ := hC
  intro H locs lsC hH hS hL hz1 hz2
  obtain ⟨q, hq⟩ := rb_ref (Γ := Γ) ha
  rw [stk_ref hq]
  exact lv_astore_n hx hb hd rfl (L_has hL) (sto1_lt hL hv) rfl (fun lsD hD => kk H locs lsD hH hS (L_sto1 hΓ hL hv rfl (by rw [tr_ref, hq]; exact hD)).1 hz1 hz2)
theorem s_lstore (hC : Cx Γ p s m args meth c k) {n : Nat} {v : Int64} {l2 : List Value} (hv : sto2 k ls n v = some l2) (hd : decode (mCode k) pc = .ok (.lstore n, 2)) (kk : Wst Γ p l e R s m args below meth c Q k z (pc + 2) l2 (st) h) : Wst Γ p l e R s m args below meth c Q k z pc ls (.long v :: st) h := by
  obtain ⟨hx, hb, hml, hown, hts, hin, hE, hΓ⟩ := hC
  intro H locs lsC hH hS hL hz1 hz2
  exact lv_lstore hx hb hd (L_has hL) (sto2_lt hL hv) rfl (fun lsD hD => kk H locs lsD hH hS (L_sto2 hΓ hL hv hD).1 hz1 hz2)
theorem s_iinc (hC : Cx Γ p s m args meth c k) {n : Nat} {d : Int} {v : Int32} {l2 : List Value} (hg : getI ls n = some v) (hv : sto1 k ls n (.int (v + Int32.ofInt d)) = some l2) (hd : decode (mCode k) pc = .ok (.iinc n d, 3)) (kk : Wst Γ p l e R s m args below meth c Q k z (pc + 3) l2 (st) h) : Wst Γ p l e R s m args below meth c Q k z pc ls st h := by
  obtain ⟨hx, hb, hml, hown, hts, hin, hE, hΓ⟩ := hC
  intro H locs lsC hH hS hL hz1 hz2
  have hm : (n, Value.int v) ∈ asc Γ ls := by
    unfold getI at hg
    split at hg
    · rename_i w hw
      cases hg
      exact asc_mem.mpr ⟨.int v, hw, by simp [poi], rfl⟩
    · cases hg
  obtain ⟨q, hq⟩ := List.getElem?_of_mem hm
  exact lv_iinc hx hb hd (L_has hL) hq rfl (sto1_lt hL hv) rfl (fun lsD hD => kk H locs lsD hH hS (L_sto1 hΓ hL hv rfl hD).1 hz1 hz2)
theorem s_iadd (hC : Cx Γ p s m args meth c k) {x y : Int32} (hd : decode (mCode k) pc = .ok (.iadd, 1)) (kk : Wst Γ p l e R s m args below meth c Q k z (pc + 1) ls (.int (x + y) :: st) h) : Wst Γ p l e R s m args below meth c Q k z pc ls (.int y :: .int x :: st) h := by
  obtain ⟨hx, hb, hml, hown, hts, hin, hE, hΓ⟩ := hC
  intro H locs lsC hH hS hL hz1 hz2
  exact lv_iadd hx hb hd (kk H locs lsC hH hS hL hz1 hz2)
theorem s_isub (hC : Cx Γ p s m args meth c k) {x y : Int32} (hd : decode (mCode k) pc = .ok (.isub, 1)) (kk : Wst Γ p l e R s m args below meth c Q k z (pc + 1) ls (.int (x - y) :: st) h) : Wst Γ p l e R s m args below meth c Q k z pc ls (.int y :: .int x :: st) h := by
  obtain ⟨hx, hb, hml, hown, hts, hin, hE, hΓ⟩ := hC
  intro H locs lsC hH hS hL hz1 hz2
  exact lv_isub hx hb hd (kk H locs lsC hH hS hL hz1 hz2)
theorem s_imul (hC : Cx Γ p s m args meth c k) {x y : Int32} (hd : decode (mCode k) pc = .ok (.imul, 1)) (kk : Wst Γ p l e R s m args below meth c Q k z (pc + 1) ls (.int (x * y) :: st) h) : Wst Γ p l e R s m args below meth c Q k z pc ls (.int y :: .int x :: st) h := by
  obtain ⟨hx, hb, hml, hown, hts, hin, hE, hΓ⟩ := hC
  intro H locs lsC hH hS hL hz1 hz2
  exact lv_imul hx hb hd (kk H locs lsC hH hS hL hz1 hz2)
theorem s_iand (hC : Cx Γ p s m args meth c k) {x y : Int32} (hd : decode (mCode k) pc = .ok (.iand, 1)) (kk : Wst Γ p l e R s m args below meth c Q k z (pc + 1) ls (.int (x &&& y) :: st) h) : Wst Γ p l e R s m args below meth c Q k z pc ls (.int y :: .int x :: st) h := by
  obtain ⟨hx, hb, hml, hown, hts, hin, hE, hΓ⟩ := hC
  intro H locs lsC hH hS hL hz1 hz2
  exact lv_iand hx hb hd (kk H locs lsC hH hS hL hz1 hz2)
theorem s_ishr (hC : Cx Γ p s m args meth c k) {x y : Int32} (hd : decode (mCode k) pc = .ok (.ishr, 1)) (kk : Wst Γ p l e R s m args below meth c Q k z (pc + 1) ls (.int (x >>> (y &&& 31)) :: st) h) : Wst Γ p l e R s m args below meth c Q k z pc ls (.int y :: .int x :: st) h := by
  obtain ⟨hx, hb, hml, hown, hts, hin, hE, hΓ⟩ := hC
  intro H locs lsC hH hS hL hz1 hz2
  exact lv_ishr hx hb hd (kk H locs lsC hH hS hL hz1 hz2)
theorem s_idiv (hC : Cx Γ p s m args meth c k) {x y : Int32} (hy : ¬ y = 0) (hd : decode (mCode k) pc = .ok (.idiv, 1)) (kk : Wst Γ p l e R s m args below meth c Q k z (pc + 1) ls (.int (x / y) :: st) h) : Wst Γ p l e R s m args below meth c Q k z pc ls (.int y :: .int x :: st) h := by
  obtain ⟨hx, hb, hml, hown, hts, hin, hE, hΓ⟩ := hC
  intro H locs lsC hH hS hL hz1 hz2
  exact lv_idiv hx hb hd hy (kk H locs lsC hH hS hL hz1 hz2)
theorem s_irem (hC : Cx Γ p s m args meth c k) {x y : Int32} (hy : ¬ y = 0) (hd : decode (mCode k) pc = .ok (.irem, 1)) (kk : Wst Γ p l e R s m args below meth c Q k z (pc + 1) ls (.int (x - x / y * y) :: st) h) : Wst Γ p l e R s m args below meth c Q k z pc ls (.int y :: .int x :: st) h := by
  obtain ⟨hx, hb, hml, hown, hts, hin, hE, hΓ⟩ := hC
  intro H locs lsC hH hS hL hz1 hz2
  exact lv_irem hx hb hd hy (kk H locs lsC hH hS hL hz1 hz2)
theorem s_ineg (hC : Cx Γ p s m args meth c k) {x : Int32} (hd : decode (mCode k) pc = .ok (.ineg, 1)) (kk : Wst Γ p l e R s m args below meth c Q k z (pc + 1) ls (.int (-x) :: st) h) : Wst Γ p l e R s m args below meth c Q k z pc ls (.int x :: st) h := by
  obtain ⟨hx, hb, hml, hown, hts, hin, hE, hΓ⟩ := hC
  intro H locs lsC hH hS hL hz1 hz2
  exact lv_ineg hx hb hd (kk H locs lsC hH hS hL hz1 hz2)
theorem s_i2b (hC : Cx Γ p s m args meth c k) {x : Int32} (hd : decode (mCode k) pc = .ok (.i2b, 1)) (kk : Wst Γ p l e R s m args below meth c Q k z (pc + 1) ls (.int (x.toInt8.toInt32) :: st) h) : Wst Γ p l e R s m args below meth c Q k z pc ls (.int x :: st) h := by
  obtain ⟨hx, hb, hml, hown, hts, hin, hE, hΓ⟩ := hC
  intro H locs lsC hH hS hL hz1 hz2
  exact lv_i2b hx hb hd rfl (kk H locs lsC hH hS hL hz1 hz2)
theorem s_i2c (hC : Cx Γ p s m args meth c k) {x : Int32} (hd : decode (mCode k) pc = .ok (.i2c, 1)) (kk : Wst Γ p l e R s m args below meth c Q k z (pc + 1) ls (.int ((x.toUInt32 % 65536).toInt32) :: st) h) : Wst Γ p l e R s m args below meth c Q k z pc ls (.int x :: st) h := by
  obtain ⟨hx, hb, hml, hown, hts, hin, hE, hΓ⟩ := hC
  intro H locs lsC hH hS hL hz1 hz2
  exact lv_i2c hx hb hd rfl (kk H locs lsC hH hS hL hz1 hz2)
theorem s_ladd (hC : Cx Γ p s m args meth c k) {x y : Int64} (hd : decode (mCode k) pc = .ok (.ladd, 1)) (kk : Wst Γ p l e R s m args below meth c Q k z (pc + 1) ls (.long (x + y) :: st) h) : Wst Γ p l e R s m args below meth c Q k z pc ls (.long y :: .long x :: st) h := by
  obtain ⟨hx, hb, hml, hown, hts, hin, hE, hΓ⟩ := hC
  intro H locs lsC hH hS hL hz1 hz2
  exact lv_ladd hx hb hd (kk H locs lsC hH hS hL hz1 hz2)
theorem s_lsub (hC : Cx Γ p s m args meth c k) {x y : Int64} (hd : decode (mCode k) pc = .ok (.lsub, 1)) (kk : Wst Γ p l e R s m args below meth c Q k z (pc + 1) ls (.long (x - y) :: st) h) : Wst Γ p l e R s m args below meth c Q k z pc ls (.long y :: .long x :: st) h := by
  obtain ⟨hx, hb, hml, hown, hts, hin, hE, hΓ⟩ := hC
  intro H locs lsC hH hS hL hz1 hz2
  exact lv_lsub hx hb hd (kk H locs lsC hH hS hL hz1 hz2)
theorem s_lmul (hC : Cx Γ p s m args meth c k) {x y : Int64} (hd : decode (mCode k) pc = .ok (.lmul, 1)) (kk : Wst Γ p l e R s m args below meth c Q k z (pc + 1) ls (.long (x * y) :: st) h) : Wst Γ p l e R s m args below meth c Q k z pc ls (.long y :: .long x :: st) h := by
  obtain ⟨hx, hb, hml, hown, hts, hin, hE, hΓ⟩ := hC
  intro H locs lsC hH hS hL hz1 hz2
  exact lv_lmul hx hb hd (kk H locs lsC hH hS hL hz1 hz2)
theorem s_land (hC : Cx Γ p s m args meth c k) {x y : Int64} (hd : decode (mCode k) pc = .ok (.land, 1)) (kk : Wst Γ p l e R s m args below meth c Q k z (pc + 1) ls (.long (x &&& y) :: st) h) : Wst Γ p l e R s m args below meth c Q k z pc ls (.long y :: .long x :: st) h := by
  obtain ⟨hx, hb, hml, hown, hts, hin, hE, hΓ⟩ := hC
  intro H locs lsC hH hS hL hz1 hz2
  exact lv_land hx hb hd (kk H locs lsC hH hS hL hz1 hz2)
theorem s_lor (hC : Cx Γ p s m args meth c k) {x y : Int64} (hd : decode (mCode k) pc = .ok (.lor, 1)) (kk : Wst Γ p l e R s m args below meth c Q k z (pc + 1) ls (.long (x ||| y) :: st) h) : Wst Γ p l e R s m args below meth c Q k z pc ls (.long y :: .long x :: st) h := by
  obtain ⟨hx, hb, hml, hown, hts, hin, hE, hΓ⟩ := hC
  intro H locs lsC hH hS hL hz1 hz2
  exact lv_lor hx hb hd (kk H locs lsC hH hS hL hz1 hz2)
theorem s_lshl (hC : Cx Γ p s m args meth c k) {x : Int64} {y : Int32} (hd : decode (mCode k) pc = .ok (.lshl, 1)) (kk : Wst Γ p l e R s m args below meth c Q k z (pc + 1) ls (.long (x <<< (y.toInt64 &&& 63)) :: st) h) : Wst Γ p l e R s m args below meth c Q k z pc ls (.int y :: .long x :: st) h := by
  obtain ⟨hx, hb, hml, hown, hts, hin, hE, hΓ⟩ := hC
  intro H locs lsC hH hS hL hz1 hz2
  exact lv_lshl hx hb hd rfl (kk H locs lsC hH hS hL hz1 hz2)
theorem s_lshr (hC : Cx Γ p s m args meth c k) {x : Int64} {y : Int32} (hd : decode (mCode k) pc = .ok (.lshr, 1)) (kk : Wst Γ p l e R s m args below meth c Q k z (pc + 1) ls (.long (x >>> (y.toInt64 &&& 63)) :: st) h) : Wst Γ p l e R s m args below meth c Q k z pc ls (.int y :: .long x :: st) h := by
  obtain ⟨hx, hb, hml, hown, hts, hin, hE, hΓ⟩ := hC
  intro H locs lsC hH hS hL hz1 hz2
  exact lv_lshr hx hb hd rfl (kk H locs lsC hH hS hL hz1 hz2)
theorem s_lushr (hC : Cx Γ p s m args meth c k) {x : Int64} {y : Int32} (hd : decode (mCode k) pc = .ok (.lushr, 1)) (kk : Wst Γ p l e R s m args below meth c Q k z (pc + 1) ls (.long ((x.toUInt64 >>> (y.toInt64.toUInt64 &&& Int64.toUInt64 63)).toInt64) :: st) h) : Wst Γ p l e R s m args below meth c Q k z pc ls (.int y :: .long x :: st) h := by
  obtain ⟨hx, hb, hml, hown, hts, hin, hE, hΓ⟩ := hC
  intro H locs lsC hH hS hL hz1 hz2
  exact lv_lushr hx hb hd rfl (kk H locs lsC hH hS hL hz1 hz2)
theorem s_lcmp (hC : Cx Γ p s m args meth c k) {x y : Int64} (hd : decode (mCode k) pc = .ok (.lcmp, 1)) (kk : Wst Γ p l e R s m args below meth c Q k z (pc + 1) ls (.int (lg_cmp x y) :: st) h) : Wst Γ p l e R s m args below meth c Q k z pc ls (.long y :: .long x :: st) h := by
  obtain ⟨hx, hb, hml, hown, hts, hin, hE, hΓ⟩ := hC
  intro H locs lsC hH hS hL hz1 hz2
  exact W.lcmp hx hb hd (kk H locs lsC hH hS hL hz1 hz2)
theorem s_i2l (hC : Cx Γ p s m args meth c k) {x : Int32} (hd : decode (mCode k) pc = .ok (.i2l, 1)) (kk : Wst Γ p l e R s m args below meth c Q k z (pc + 1) ls (.long x.toInt64 :: st) h) : Wst Γ p l e R s m args below meth c Q k z pc ls (.int x :: st) h := by
  obtain ⟨hx, hb, hml, hown, hts, hin, hE, hΓ⟩ := hC
  intro H locs lsC hH hS hL hz1 hz2
  exact lv_i2l hx hb hd rfl (kk H locs lsC hH hS hL hz1 hz2)
theorem s_l2i (hC : Cx Γ p s m args meth c k) {x : Int64} (hd : decode (mCode k) pc = .ok (.l2i, 1)) (kk : Wst Γ p l e R s m args below meth c Q k z (pc + 1) ls (.int x.toInt32 :: st) h) : Wst Γ p l e R s m args below meth c Q k z pc ls (.long x :: st) h := by
  obtain ⟨hx, hb, hml, hown, hts, hin, hE, hΓ⟩ := hC
  intro H locs lsC hH hS hL hz1 hz2
  exact lv_l2i hx hb hd rfl (kk H locs lsC hH hS hL hz1 hz2)
theorem s_dup (hC : Cx Γ p s m args meth c k) {v : Value} (hv : v.category = 1) (hd : decode (mCode k) pc = .ok (.dup, 1)) (kk : Wst Γ p l e R s m args below meth c Q k z (pc + 1) ls (v :: v :: st) h) : Wst Γ p l e R s m args below meth c Q k z pc ls (v :: st) h := by
  obtain ⟨hx, hb, hml, hown, hts, hin, hE, hΓ⟩ := hC
  intro H locs lsC hH hS hL hz1 hz2
  exact lv_dup hx hb hd (by rw [tr_cat hΓ]; exact hv) (kk H locs lsC hH hS hL hz1 hz2)
theorem s_dup2 (hC : Cx Γ p s m args meth c k) {v w : Value} (hv : v.category = 1) (hw : w.category = 1) (hd : decode (mCode k) pc = .ok (.dup2, 1)) (kk : Wst Γ p l e R s m args below meth c Q k z (pc + 1) ls (v :: w :: v :: w :: st) h) : Wst Γ p l e R s m args below meth c Q k z pc ls (v :: w :: st) h := by
  obtain ⟨hx, hb, hml, hown, hts, hin, hE, hΓ⟩ := hC
  intro H locs lsC hH hS hL hz1 hz2
  exact lv_dup2_11 hx hb hd (by rw [tr_cat hΓ]; exact hv) (by rw [tr_cat hΓ]; exact hw) (kk H locs lsC hH hS hL hz1 hz2)
theorem s_pop (hC : Cx Γ p s m args meth c k) {v : Value} (hv : v.category = 1) (hd : decode (mCode k) pc = .ok (.pop, 1)) (kk : Wst Γ p l e R s m args below meth c Q k z (pc + 1) ls (st) h) : Wst Γ p l e R s m args below meth c Q k z pc ls (v :: st) h := by
  obtain ⟨hx, hb, hml, hown, hts, hin, hE, hΓ⟩ := hC
  intro H locs lsC hH hS hL hz1 hz2
  exact lv_pop hx hb hd (by rw [tr_cat hΓ]; exact hv) (kk H locs lsC hH hS hL hz1 hz2)
theorem s_goto (hC : Cx Γ p s m args meth c k) {off : Int} {t : Nat} (ht : tgO pc off = some t) (hd : decode (mCode k) pc = .ok (.goto off, 3)) (kk : Wst Γ p l e R s m args below meth c Q k z (t) ls (st) h) : Wst Γ p l e R s m args below meth c Q k z pc ls st h := by
  obtain ⟨hx, hb, hml, hown, hts, hin, hE, hΓ⟩ := hC
  intro H locs lsC hH hS hL hz1 hz2
  exact lv_goto hx hb hd (tgO_ok ht) (kk H locs lsC hH hS hL hz1 hz2)
theorem s_icmp_eq (hC : Cx Γ p s m args meth c k) {x y : Int32} {off : Int} {t : Nat} (ht : tgO pc off = some t) (hd : decode (mCode k) pc = .ok (.if_icmp .eq off, 3)) (kt : x = y → Wst Γ p l e R s m args below meth c Q k z t ls st h) (kf : ¬ (x = y) → Wst Γ p l e R s m args below meth c Q k z (pc + 3) ls st h) : Wst Γ p l e R s m args below meth c Q k z pc ls (.int y :: .int x :: st) h := by
  obtain ⟨hx, hb, hml, hown, hts, hin, hE, hΓ⟩ := hC
  intro H locs lsC hH hS hL hz1 hz2
  exact lv_icmp_eq hx hb hd (tgO_ok ht) (fun q => kt q H locs lsC hH hS hL hz1 hz2) (fun q => kf q H locs lsC hH hS hL hz1 hz2)
theorem s_if_eq (hC : Cx Γ p s m args meth c k) {x : Int32} {off : Int} {t : Nat} (ht : tgO pc off = some t) (hd : decode (mCode k) pc = .ok (.ifCond .eq off, 3)) (kt : x = 0 → Wst Γ p l e R s m args below meth c Q k z t ls st h) (kf : ¬ (x = 0) → Wst Γ p l e R s m args below meth c Q k z (pc + 3) ls st h) : Wst Γ p l e R s m args below meth c Q k z pc ls (.int x :: st) h := by
  obtain ⟨hx, hb, hml, hown, hts, hin, hE, hΓ⟩ := hC
  intro H locs lsC hH hS hL hz1 hz2
  exact lv_if_eq hx hb hd (tgO_ok ht) (fun q => kt q H locs lsC hH hS hL hz1 hz2) (fun q => kf q H locs lsC hH hS hL hz1 hz2)
theorem s_icmp_ne (hC : Cx Γ p s m args meth c k) {x y : Int32} {off : Int} {t : Nat} (ht : tgO pc off = some t) (hd : decode (mCode k) pc = .ok (.if_icmp .ne off, 3)) (kt : ¬ x = y → Wst Γ p l e R s m args below meth c Q k z t ls st h) (kf : ¬ (¬ x = y) → Wst Γ p l e R s m args below meth c Q k z (pc + 3) ls st h) : Wst Γ p l e R s m args below meth c Q k z pc ls (.int y :: .int x :: st) h := by
  obtain ⟨hx, hb, hml, hown, hts, hin, hE, hΓ⟩ := hC
  intro H locs lsC hH hS hL hz1 hz2
  exact lv_icmp_ne hx hb hd (tgO_ok ht) (fun q => kt q H locs lsC hH hS hL hz1 hz2) (fun q => kf (fun w => w q) H locs lsC hH hS hL hz1 hz2)
theorem s_if_ne (hC : Cx Γ p s m args meth c k) {x : Int32} {off : Int} {t : Nat} (ht : tgO pc off = some t) (hd : decode (mCode k) pc = .ok (.ifCond .ne off, 3)) (kt : ¬ x = 0 → Wst Γ p l e R s m args below meth c Q k z t ls st h) (kf : ¬ (¬ x = 0) → Wst Γ p l e R s m args below meth c Q k z (pc + 3) ls st h) : Wst Γ p l e R s m args below meth c Q k z pc ls (.int x :: st) h := by
  obtain ⟨hx, hb, hml, hown, hts, hin, hE, hΓ⟩ := hC
  intro H locs lsC hH hS hL hz1 hz2
  exact lv_if_ne hx hb hd (tgO_ok ht) (fun q => kt q H locs lsC hH hS hL hz1 hz2) (fun q => kf (fun w => w q) H locs lsC hH hS hL hz1 hz2)
theorem s_icmp_lt (hC : Cx Γ p s m args meth c k) {x y : Int32} {off : Int} {t : Nat} (ht : tgO pc off = some t) (hd : decode (mCode k) pc = .ok (.if_icmp .lt off, 3)) (kt : x < y → Wst Γ p l e R s m args below meth c Q k z t ls st h) (kf : ¬ (x < y) → Wst Γ p l e R s m args below meth c Q k z (pc + 3) ls st h) : Wst Γ p l e R s m args below meth c Q k z pc ls (.int y :: .int x :: st) h := by
  obtain ⟨hx, hb, hml, hown, hts, hin, hE, hΓ⟩ := hC
  intro H locs lsC hH hS hL hz1 hz2
  exact lv_icmp_lt hx hb hd (tgO_ok ht) (fun q => kt q H locs lsC hH hS hL hz1 hz2) (fun q => kf q H locs lsC hH hS hL hz1 hz2)
theorem s_if_lt (hC : Cx Γ p s m args meth c k) {x : Int32} {off : Int} {t : Nat} (ht : tgO pc off = some t) (hd : decode (mCode k) pc = .ok (.ifCond .lt off, 3)) (kt : x < 0 → Wst Γ p l e R s m args below meth c Q k z t ls st h) (kf : ¬ (x < 0) → Wst Γ p l e R s m args below meth c Q k z (pc + 3) ls st h) : Wst Γ p l e R s m args below meth c Q k z pc ls (.int x :: st) h := by
  obtain ⟨hx, hb, hml, hown, hts, hin, hE, hΓ⟩ := hC
  intro H locs lsC hH hS hL hz1 hz2
  exact lv_if_lt hx hb hd (tgO_ok ht) (fun q => kt q H locs lsC hH hS hL hz1 hz2) (fun q => kf q H locs lsC hH hS hL hz1 hz2)
theorem s_icmp_ge (hC : Cx Γ p s m args meth c k) {x y : Int32} {off : Int} {t : Nat} (ht : tgO pc off = some t) (hd : decode (mCode k) pc = .ok (.if_icmp .ge off, 3)) (kt : y ≤ x → Wst Γ p l e R s m args below meth c Q k z t ls st h) (kf : ¬ (y ≤ x) → Wst Γ p l e R s m args below meth c Q k z (pc + 3) ls st h) : Wst Γ p l e R s m args below meth c Q k z pc ls (.int y :: .int x :: st) h := by
  obtain ⟨hx, hb, hml, hown, hts, hin, hE, hΓ⟩ := hC
  intro H locs lsC hH hS hL hz1 hz2
  exact lv_icmp_ge hx hb hd (tgO_ok ht) (fun q => kt q H locs lsC hH hS hL hz1 hz2) (fun q => kf q H locs lsC hH hS hL hz1 hz2)
theorem s_if_ge (hC : Cx Γ p s m args meth c k) {x : Int32} {off : Int} {t : Nat} (ht : tgO pc off = some t) (hd : decode (mCode k) pc = .ok (.ifCond .ge off, 3)) (kt : 0 ≤ x → Wst Γ p l e R s m args below meth c Q k z t ls st h) (kf : ¬ (0 ≤ x) → Wst Γ p l e R s m args below meth c Q k z (pc + 3) ls st h) : Wst Γ p l e R s m args below meth c Q k z pc ls (.int x :: st) h := by
  obtain ⟨hx, hb, hml, hown, hts, hin, hE, hΓ⟩ := hC
  intro H locs lsC hH hS hL hz1 hz2
  exact lv_if_ge hx hb hd (tgO_ok ht) (fun q => kt q H locs lsC hH hS hL hz1 hz2) (fun q => kf q H locs lsC hH hS hL hz1 hz2)
theorem s_icmp_gt (hC : Cx Γ p s m args meth c k) {x y : Int32} {off : Int} {t : Nat} (ht : tgO pc off = some t) (hd : decode (mCode k) pc = .ok (.if_icmp .gt off, 3)) (kt : y < x → Wst Γ p l e R s m args below meth c Q k z t ls st h) (kf : ¬ (y < x) → Wst Γ p l e R s m args below meth c Q k z (pc + 3) ls st h) : Wst Γ p l e R s m args below meth c Q k z pc ls (.int y :: .int x :: st) h := by
  obtain ⟨hx, hb, hml, hown, hts, hin, hE, hΓ⟩ := hC
  intro H locs lsC hH hS hL hz1 hz2
  exact lv_icmp_gt hx hb hd (tgO_ok ht) (fun q => kt q H locs lsC hH hS hL hz1 hz2) (fun q => kf q H locs lsC hH hS hL hz1 hz2)
theorem s_if_gt (hC : Cx Γ p s m args meth c k) {x : Int32} {off : Int} {t : Nat} (ht : tgO pc off = some t) (hd : decode (mCode k) pc = .ok (.ifCond .gt off, 3)) (kt : 0 < x → Wst Γ p l e R s m args below meth c Q k z t ls st h) (kf : ¬ (0 < x) → Wst Γ p l e R s m args below meth c Q k z (pc + 3) ls st h) : Wst Γ p l e R s m args below meth c Q k z pc ls (.int x :: st) h := by
  obtain ⟨hx, hb, hml, hown, hts, hin, hE, hΓ⟩ := hC
  intro H locs lsC hH hS hL hz1 hz2
  exact lv_if_gt hx hb hd (tgO_ok ht) (fun q => kt q H locs lsC hH hS hL hz1 hz2) (fun q => kf q H locs lsC hH hS hL hz1 hz2)
theorem s_icmp_le (hC : Cx Γ p s m args meth c k) {x y : Int32} {off : Int} {t : Nat} (ht : tgO pc off = some t) (hd : decode (mCode k) pc = .ok (.if_icmp .le off, 3)) (kt : x ≤ y → Wst Γ p l e R s m args below meth c Q k z t ls st h) (kf : ¬ (x ≤ y) → Wst Γ p l e R s m args below meth c Q k z (pc + 3) ls st h) : Wst Γ p l e R s m args below meth c Q k z pc ls (.int y :: .int x :: st) h := by
  obtain ⟨hx, hb, hml, hown, hts, hin, hE, hΓ⟩ := hC
  intro H locs lsC hH hS hL hz1 hz2
  exact lv_icmp_le hx hb hd (tgO_ok ht) (fun q => kt q H locs lsC hH hS hL hz1 hz2) (fun q => kf q H locs lsC hH hS hL hz1 hz2)
theorem s_if_le (hC : Cx Γ p s m args meth c k) {x : Int32} {off : Int} {t : Nat} (ht : tgO pc off = some t) (hd : decode (mCode k) pc = .ok (.ifCond .le off, 3)) (kt : x ≤ 0 → Wst Γ p l e R s m args below meth c Q k z t ls st h) (kf : ¬ (x ≤ 0) → Wst Γ p l e R s m args below meth c Q k z (pc + 3) ls st h) : Wst Γ p l e R s m args below meth c Q k z pc ls (.int x :: st) h := by
  obtain ⟨hx, hb, hml, hown, hts, hin, hE, hΓ⟩ := hC
  intro H locs lsC hH hS hL hz1 hz2
  exact lv_if_le hx hb hd (tgO_ok ht) (fun q => kt q H locs lsC hH hS hL hz1 hz2) (fun q => kf q H locs lsC hH hS hL hz1 hz2)
theorem s_tsOut (hC : Cx Γ p s m args meth c k) {d lo hi : Int} {offs : Array Int} {len : Nat} {x : Int32} {t : Nat} (hq : x.toInt < lo ∨ hi < x.toInt) (ht : tgO pc d = some t) (hd : decode (mCode k) pc = .ok (.tableswitch d lo hi offs, len)) (kk : Wst Γ p l e R s m args below meth c Q k z (t) ls (st) h) : Wst Γ p l e R s m args below meth c Q k z pc ls (.int x :: st) h := by
  obtain ⟨hx, hb, hml, hown, hts, hin, hE, hΓ⟩ := hC
  intro H locs lsC hH hS hL hz1 hz2
  exact lv_tableOut hx hb hd hq (tgO_ok ht) (kk H locs lsC hH hS hL hz1 hz2)
theorem s_tsIn (hC : Cx Γ p s m args meth c k) {d lo hi : Int} {offs : Array Int} {len : Nat} {x : Int32} {t : Nat} {off : Int} (hq : ¬ (x.toInt < lo ∨ hi < x.toInt)) (ho : offs[(x.toInt - lo).toNat]? = some off) (ht : tgO pc off = some t) (hd : decode (mCode k) pc = .ok (.tableswitch d lo hi offs, len)) (kk : Wst Γ p l e R s m args below meth c Q k z (t) ls (st) h) : Wst Γ p l e R s m args below meth c Q k z pc ls (.int x :: st) h := by
  obtain ⟨hx, hb, hml, hown, hts, hin, hE, hΓ⟩ := hC
  intro H locs lsC hH hS hL hz1 hz2
  exact lv_tableIn hx hb hd (fun q => hq (Or.inl q)) (fun q => hq (Or.inr q)) ho (tgO_ok ht) (kk H locs lsC hH hS hL hz1 hz2)
theorem s_ls (hC : Cx Γ p s m args meth c k) {d : Int} {ps : Array (Int × Int)} {len : Nat} {x : Int32} {t : Nat} (hp : (ps.toList.zip (ps.toList.drop 1)).all (fun (a, next) => a.1 < next.1) = true) (ht : tgO pc (Op.lookupswitch.offset ps.toList d x.toInt) = some t) (hd : decode (mCode k) pc = .ok (.lookupswitch d ps, len)) (kk : Wst Γ p l e R s m args below meth c Q k z (t) ls (st) h) : Wst Γ p l e R s m args below meth c Q k z pc ls (.int x :: st) h := by
  obtain ⟨hx, hb, hml, hown, hts, hin, hE, hΓ⟩ := hC
  intro H locs lsC hH hS hL hz1 hz2
  exact lv_lookup hx hb hd hp rfl (tgO_ok ht) (kk H locs lsC hH hS hL hz1 hz2)
end
