/-! WHAT THE SMALL MACHINE'S STATE SAYS OF THE JVM'S. Γ: base of our cells, the script's cell, its length and ints; texts' cells and their bytes'; classes and slots; array classes; the formatter. -/
abbrev GT : Type := (Nat × Nat × Nat × (Nat → Int32)) × ((Nat → Nat) × (Nat → Nat)) × va_G × (FieldType → ClassId) × Value
def rb (Γ : GT) (a : Nat) : Value := if a < 1000000 then .ref (Γ.1.1 + a) else if a = 1000000 then .ref Γ.1.2.1 else if a < 1000011 then .ref (Γ.2.1.1 (a - 1000001)) else if a < 1000021 then .ref (Γ.2.1.2 (a - 1000011)) else Γ.2.2.2.2
def tr (Γ : GT) (v : Value) : Value := match v with
  | .ref a => rb Γ a
  | v => v
def enE (Γ : GT) (e : AE) : va_E := match e with
  | .inl (t, a) => .inl (Γ.2.2.2.1 t, a)
  | .inr (c, fs) => .inr (c, fs.map (tr Γ))
def wsO (Γ : GT) (h : AH) : va_W := (List.range h.2.1).map (fun i => (Γ.1.1 + i, enE Γ (h.2.2 i)))
def tysG (Γ : GT) : List (ClassId × FieldType) := [(Γ.2.2.2.1 .int, .int), (Γ.2.2.2.1 .boolean, .boolean), (Γ.2.2.2.1 .char, .char), (Γ.2.2.2.1 .long, .long)]
def AB (Γ : GT) : Nat → Prop := fun q => Γ.1.1 ≤ q
def txW : String := "at      wait    when    and     up      people  things  late    last    hour    train   "
def nestW : Cond := .methodLinkNest "PostBus$Reader" 94 ⟨"PostBus", "within", "(III)Z"⟩ "PostBus"
def nsE : String := "java/util/NoSuchElementException"
def mgW : Nat → Nat × String := fun i => match i with
  | 0 => (151, "no such run")
  | 1 => (184, "no such thing to look at")
  | 2 => (186, "no such load")
  | _ => (198, "no such thing to tell")
/-- what the throwing methods need of the world -/
def dcW : Nat → Cond := fun i => match i with
  | 0 => .declares ⟨"java/lang/RuntimeException", "<init>", "(Ljava/lang/String;)V"⟩
  | 1 => .declares ⟨"java/lang/Exception", "<init>", "(Ljava/lang/String;)V"⟩
  | _ => .declares ⟨"java/lang/Throwable", "<init>", "(Ljava/lang/String;)V"⟩
def X0 (Γ : GT) (s : State) : Prop := (va_Nw (.castable nsE nsE) s ∧ va_Nw (dcW 0) s ∧ va_Nw (dcW 1) s ∧ va_Nw (dcW 2) s) ∧ vx_Zq Bundle.tN "UNASSIGNED_STACK" Bundle.steD (AB Γ) s s.heap ∧ vx_Zq Bundle.tN "SUPPRESSED_SENTINEL" Bundle.listD (AB Γ) s s.heap ∧ ∀ i, i < 4 → ∃ a, vk_R RX7 (mgW i).1 (mgW i).2 a s
def E0 (Γ : GT) (s : State) : Prop := va_K Γ.2.2.1 vwCl (tysG Γ) s ∧ (va_Nw nestW s ∧ X0 Γ s) ∧ vk_R RX5 19 txW (Γ.2.1.1 0) s ∧ vk_R RX2 79 "()<=+-;" (Γ.2.1.1 1) s ∧ vk_S 2 [lenS 0, lenS 1] [bytS 0, bytS 1] Γ.2.1.1 Γ.2.1.2 (AB Γ) s s.heap ∧ va_Z "java/lang/String" "COMPACT_STRINGS" "Z" (.int 1) (AB Γ) s s.heap ∧ va_Z "jdk/internal/util/Preconditions" "SIOOBE_FORMATTER" "Ljava/util/function/BiFunction;" Γ.2.2.2.2 (AB Γ) s s.heap ∧ va_X Γ.1.2.1 Γ.1.2.2.1 Γ.1.2.2.2 s s.heap ∧ Γ.1.2.1 < s.heap.size ∧ ¬ AB Γ Γ.1.2.1
theorem E0.moved {Γ : GT} {s U : State} (h : E0 Γ s) (hW : s.WarmedH U.vm) (hq : ∀ q : Nat, q < s.heap.size → ¬ AB Γ q → U.heap[q]? = s.heap[q]?) (hz : s.heap.size ≤ U.heap.size) : E0 Γ U := by
  obtain ⟨h1, ⟨h2, ⟨x1, y0, y1, y2⟩, x2, x3, x4⟩, h3, h4, h5, h6, h7, h8, h9, h10⟩ := h
  exact ⟨va_K.moved hW.alike h1, ⟨va_Nw.warmM hW h2, ⟨va_Nw.warmC hW x1, va_Nw.warmD hW y0, va_Nw.warmD hW y1, va_Nw.warmD hW y2⟩, vx_Zq.moved hW.alike (x2.kept hq), vx_Zq.moved hW.alike (x3.kept hq), fun i hi => (x4 i hi).imp (fun a ha => vk_R.warm hW ha)⟩, vk_R.warm hW h3, vk_R.warm hW h4, vk_S.moved hW.alike (h5.kept hq), va_Z.moved hW.alike (h6.kept hq), va_Z.moved hW.alike (h7.kept hq), va_X.moved hW.alike (h8.kept (hq _ h9 h10)), Nat.lt_of_lt_of_le h9 hz, h10⟩
def HRel (Γ : GT) (h : AH) (H : Heap) : Prop := va_P Γ.2.2.1 vwCl (wsO Γ h) H ∧ Γ.1.1 + h.2.1 ≤ H.size ∧ h.2.2 1000000 = .inl (.int, Γ.1.2.2.1, .inl Γ.1.2.2.2) ∧ h.2.1 < 1000000
def LRel (Γ : GT) (k : Nat) (ls : List Value) (lsC : Array Slot) : Prop := lsC.size = mML k ∧ lv_wf lsC ∧ ls.length = mML k ∧ (∀ (j : Nat) (v : Value), ls[j]? = some v → v ≠ poi → lsC[j]? = some (.val (tr Γ v))) ∧ ∀ (j : Nat) (v : Value), ls[j]? = some v → v.category = 2 → (mLS k).contains j = true
theorem ws_at {Γ : GT} {h : AH} {a : Nat} (ha : a < h.2.1) : (wsO Γ h)[a]? = some (Γ.1.1 + a, enE Γ (h.2.2 a)) := by
  simp [wsO, ha]
theorem ws_set {Γ : GT} {h : AH} {a : Nat} (ha : a < h.2.1) (e : AE) : (wsO Γ h).set a (Γ.1.1 + a, enE Γ e) = wsO Γ (setC h a e) := by
  apply List.ext_getElem?
  intro i
  simp only [wsO, setC, List.getElem?_set, List.getElem?_map, List.length_map, List.length_range]
  by_cases hi : a = i
  · subst hi
    simp [ha, va_up]
  · rw [if_neg hi]
    by_cases hl : i < h.2.1
    · simp [hl, va_up, Ne.symm hi]
    · simp [hl]
theorem ws_D {Γ : GT} {h : AH} : va_D (AB Γ) (wsO Γ h) := by
  have key : ∀ (k : Nat) (q : Nat × va_E), (wsO Γ h)[k]? = some q → q.1 = Γ.1.1 + k := by
    intro k q hk
    by_cases hl : k < h.2.1
    · rw [ws_at hl] at hk
      cases hk
      rfl
    · simp [wsO, hl] at hk
  refine ⟨fun i j x y hi hj hxy => ?_, fun k q hk => ?_⟩
  · have h1 := key i x hi
    have h2 := key j y hj
    omega
  · show Γ.1.1 ≤ q.1
    rw [key k q hk]
    omega
theorem ws_push {Γ : GT} {h : AH} {q : Nat × Nat} (e : AE) : wsO Γ h ++ [(Γ.1.1 + h.2.1, enE Γ e)] = wsO Γ (q, h.2.1 + 1, va_up h.2.2 h.2.1 e) := by
  simp only [wsO, List.range_succ, List.map_append, List.map_cons, List.map_nil]
  congr 1
  · apply List.map_congr_left
    intro i hi
    have := List.mem_range.mp hi
    simp [va_up, Nat.ne_of_lt this]
  · simp [va_up]
theorem rb_own {Γ : GT} {a : Nat} (h : a < 1000000) : rb Γ a = .ref (Γ.1.1 + a) := by simp [rb, h]
theorem rb_ref {Γ : GT} {a : Nat} (h : a < 1000020) : ∃ q, rb Γ a = .ref q := by
  unfold rb
  split
  · exact ⟨_, rfl⟩
  · split
    · exact ⟨_, rfl⟩
    · split
      · exact ⟨_, rfl⟩
      · rw [if_pos (by omega)]
        exact ⟨_, rfl⟩
theorem tr_int {Γ : GT} {v : Int32} : tr Γ (.int v) = .int v := rfl
theorem tr_long {Γ : GT} {v : Int64} : tr Γ (.long v) = .long v := rfl
theorem tr_ref {Γ : GT} {a : Nat} : tr Γ (.ref a) = rb Γ a := rfl
theorem tr_cat {Γ : GT} (hΓ : Γ.2.2.2.2 = .null ∨ ∃ t, Γ.2.2.2.2 = .ref t) (v : Value) : (tr Γ v).category = v.category := by
  cases v with
  | ref a =>
    show (rb Γ a).category = 1
    unfold rb
    split
    · rfl
    · split
      · rfl
      · split
        · rfl
        · split
          · rfl
          · rcases hΓ with e | ⟨t, e⟩ <;> rw [e] <;> rfl
  | _ => rfl
theorem tr_catS {Γ : GT} (hΓ : Γ.2.2.2.2 = .null ∨ ∃ t, Γ.2.2.2.2 = .ref t) (st : List Value) : ((st.map (tr Γ)).map fun v => v.category).sum = catS st := by
  simp only [catS, List.map_map]
  congr 1
  apply List.map_congr_left
  intro v _
  exact tr_cat hΓ v
theorem tgO_ok {pc t : Nat} {off : Int} (h : tgO pc off = some t) : (pc : Int) + off = (t : Int) := by
  unfold tgO at h
  split at h
  · cases h
    omega
  · cases h
theorem inB_ok {j : Int32} {n : Nat} : inB j n = true ↔ vp_in j n := by simp [inB, vp_in]
/-- the locals, read -/
theorem L_int {Γ : GT} {k : Nat} {ls : List Value} {lsC : Array Slot} {n : Nat} {v : Int32} (hL : LRel Γ k ls lsC) (h : getI ls n = some v) : lsC[n]? = some (.val (.int v)) := by
  unfold getI at h
  split at h
  · rename_i w hw
    cases h
    exact hL.2.2.2.1 n _ hw (by simp [poi])
  · cases h
theorem L_long {Γ : GT} {k : Nat} {ls : List Value} {lsC : Array Slot} {n : Nat} {v : Int64} (hL : LRel Γ k ls lsC) (h : getL ls n = some v) : lsC[n]? = some (.val (.long v)) := by
  unfold getL at h
  split at h
  · rename_i w hw
    cases h
    exact hL.2.2.2.1 n _ hw (by simp [poi])
  · cases h
theorem L_ref {Γ : GT} {k : Nat} {ls : List Value} {lsC : Array Slot} {n a : Nat} (hL : LRel Γ k ls lsC) (h : getR ls n = some a) : ∃ q, rb Γ a = .ref q ∧ lsC[n]? = some (.val (.ref q)) := by
  unfold getR at h
  split at h
  · rename_i w hw
    split at h
    · rename_i hlt
      cases h
      obtain ⟨q, hq⟩ := rb_ref (Γ := Γ) hlt
      refine ⟨q, hq, ?_⟩
      have := hL.2.2.2.1 n _ hw (by simp [poi])
      rw [this, tr_ref, hq]
    · cases h
  · cases h
/-- the locals as the kit's list -/
def asc (Γ : GT) (ls : List Value) : List (Nat × Value) := (ls.zipIdx.filter (fun q => decide (q.1 ≠ poi))).map (fun q => (q.2, tr Γ q.1))
theorem asc_mem {Γ : GT} {ls : List Value} {q : Nat × Value} : q ∈ asc Γ ls ↔ ∃ v, ls[q.1]? = some v ∧ v ≠ poi ∧ q.2 = tr Γ v := by
  simp only [asc, List.mem_map, List.mem_filter, decide_eq_true_eq]
  constructor
  · rintro ⟨⟨v, i⟩, ⟨h1, h2⟩, rfl⟩
    have := List.mem_zipIdx_iff_getElem?.mp h1
    exact ⟨v, this, h2, rfl⟩
  · rintro ⟨v, h1, h2, h3⟩
    refine ⟨(v, q.1), ⟨List.mem_zipIdx_iff_getElem?.mpr h1, h2⟩, ?_⟩
    rw [← h3]
theorem L_has {Γ : GT} {k : Nat} {ls : List Value} {lsC : Array Slot} (hL : LRel Γ k ls lsC) : lv_has lsC (mML k) (asc Γ ls) := by
  refine ⟨hL.1, hL.2.1, fun q hq => ?_⟩
  obtain ⟨v, h1, h2, h3⟩ := asc_mem.mp hq
  rw [h3]
  exact hL.2.2.2.1 q.1 v h1 h2
theorem L_sto1 {Γ : GT} {k : Nat} {ls l : List Value} {lsC lsD : Array Slot} {n : Nat} {v : Value} (hΓ : Γ.2.2.2.2 = .null ∨ ∃ t, Γ.2.2.2.2 = .ref t) (hL : LRel Γ k ls lsC) (h : sto1 k ls n v = some l) (hv : v.category = 1)
    (hD : lv_has lsD (mML k) ((n, tr Γ v) :: (asc Γ ls).filter (fun q => !(q.1 == n) && !(q.1 + 1 == n && q.2.category == 2)))) : LRel Γ k l lsD ∧ n < mML k := by
  unfold sto1 at h
  split at h
  · rename_i hc
    cases h
    obtain ⟨h1, h2, h3, h4, h5⟩ := hL
    have hn : n < mML k := by rw [← h3]; exact hc.1
    refine ⟨⟨hD.1, hD.2.1, by simp [h3], fun j w hj hw => ?_, fun j w hj => ?_⟩, hn⟩
    · by_cases e : n = j
      · subst e
        rw [List.getElem?_set_self (by omega)] at hj
        cases hj
        exact hD.2.2 (n, tr Γ v) (by simp)
      · rw [List.getElem?_set_ne e] at hj
        refine hD.2.2 (j, tr Γ w) (List.mem_cons_of_mem _ (List.mem_filter.mpr ⟨asc_mem.mpr ⟨w, hj, hw, rfl⟩, ?_⟩))
        simp only [Bool.and_eq_true, Bool.not_eq_true', beq_eq_false_iff_ne, ne_eq, Bool.and_eq_false_iff]
        refine ⟨Ne.symm e, ?_⟩
        by_cases e2 : j + 1 = n
        · right
          rw [tr_cat hΓ]
          intro hcat
          have h6 := h5 j w hj hcat
          have h7 := hc.2
          simp only [okS, Bool.and_eq_true, Bool.or_eq_true, Bool.not_eq_true', beq_iff_eq] at h7
          have e3 : n - 1 = j := by omega
          rw [e3, h6] at h7
          rcases h7.2 with q | q
          · omega
          · cases q
        · left
          exact e2
    · by_cases e : n = j
      · subst e
        rw [List.getElem?_set_self (by omega)] at hj
        cases hj
        intro hcat
        rw [hv] at hcat
        cases hcat
      · rw [List.getElem?_set_ne e] at hj
        exact h5 j w hj
  · cases h
theorem L_sto2 {Γ : GT} {k : Nat} {ls l : List Value} {lsC lsD : Array Slot} {n : Nat} {v : Int64} (hΓ : Γ.2.2.2.2 = .null ∨ ∃ t, Γ.2.2.2.2 = .ref t) (hL : LRel Γ k ls lsC) (h : sto2 k ls n v = some l)
    (hD : lv_has lsD (mML k) ((n, Value.long v) :: (asc Γ ls).filter (fun q => !(q.1 == n) && (!(q.1 == n + 1) && !(q.1 + 1 == n && q.2.category == 2))))) : LRel Γ k l lsD ∧ n + 1 < mML k := by
  unfold sto2 at h
  split at h
  · rename_i hc
    cases h
    obtain ⟨h1, h2, h3, h4, h5⟩ := hL
    have hn : n + 1 < mML k := by rw [← h3]; exact hc.1
    have h7 := hc.2
    simp only [okS2, Bool.and_eq_true, Bool.or_eq_true, Bool.not_eq_true', beq_iff_eq] at h7
    refine ⟨⟨hD.1, hD.2.1, by simp [h3], fun j w hj hw => ?_, fun j w hj => ?_⟩, hn⟩
    · by_cases e2 : n + 1 = j
      · subst e2
        rw [List.getElem?_set_self (by simp; omega)] at hj
        cases hj
        exact absurd rfl hw
      · rw [List.getElem?_set_ne e2] at hj
        by_cases e : n = j
        · subst e
          rw [List.getElem?_set_self (by omega)] at hj
          cases hj
          exact hD.2.2 (n, Value.long v) (by simp)
        · rw [List.getElem?_set_ne e] at hj
          refine hD.2.2 (j, tr Γ w) (List.mem_cons_of_mem _ (List.mem_filter.mpr ⟨asc_mem.mpr ⟨w, hj, hw, rfl⟩, ?_⟩))
          simp only [Bool.and_eq_true, Bool.not_eq_true', beq_eq_false_iff_ne, ne_eq, Bool.and_eq_false_iff]
          refine ⟨Ne.symm e, Ne.symm e2, ?_⟩
          by_cases e3 : j + 1 = n
          · right
            rw [tr_cat hΓ]
            intro hcat
            have h6 := h5 j w hj hcat
            have e4 : n - 1 = j := by omega
            rw [e4, h6] at h7
            rcases h7.2 with q | q
            · omega
            · cases q
          · left
            exact e3
    · by_cases e2 : n + 1 = j
      · subst e2
        rw [List.getElem?_set_self (by simp; omega)] at hj
        cases hj
        intro hcat
        simp [poi, Value.category] at hcat
      · rw [List.getElem?_set_ne e2] at hj
        by_cases e : n = j
        · subst e
          intro _
          exact h7.1.1
        · rw [List.getElem?_set_ne e] at hj
          exact h5 j w hj
  · cases h
/-- the locals at a method's entry -/
theorem lv_args_tr {Γ : GT} (hΓ : Γ.2.2.2.2 = .null ∨ ∃ t, Γ.2.2.2.2 = .ref t) : ∀ (as : List Value) (i j : Nat) (v : Value), (iniL as)[j]? = some v → v ≠ poi → (i + j, tr Γ v) ∈ lv_args i (as.map (tr Γ)) := by
  intro as
  induction as with
  | nil => intro i j v h; simp [iniL] at h
  | cons a as ih =>
    intro i j v h hv
    have e : iniL (a :: as) = (if a.category = 2 then [a, poi] else [a]) ++ iniL as := by simp [iniL]
    rw [e] at h
    simp only [List.map_cons, lv_args, tr_cat hΓ]
    by_cases hc : a.category = 2
    · rw [if_pos hc] at h ⊢
      match j, h with
      | 0, h => cases h; simp
      | 1, h => cases h; exact absurd rfl hv
      | j + 2, h =>
        have h' : (iniL as)[j]? = some v := by simpa using h
        have := ih (i + 2) j v h' hv
        rw [show i + (j + 2) = i + 2 + j by omega]
        exact List.mem_cons_of_mem _ this
    · rw [if_neg hc] at h ⊢
      match j, h with
      | 0, h => cases h; simp
      | j + 1, h =>
        have h' : (iniL as)[j]? = some v := by simpa using h
        have := ih (i + 1) j v h' hv
        rw [show i + (j + 1) = i + 1 + j by omega]
        exact List.mem_cons_of_mem _ this
theorem lg_sl_len {Γ : GT} (hΓ : Γ.2.2.2.2 = .null ∨ ∃ t, Γ.2.2.2.2 = .ref t) (as : List Value) : (lg_sl (as.map (tr Γ))).length = (iniL as).length := by
  induction as with
  | nil => rfl
  | cons a as ih =>
    have e1 : lg_sl ((a :: as).map (tr Γ)) = (if (tr Γ a).category = 2 then [.val (tr Γ a), .second] else [.val (tr Γ a)]) ++ lg_sl (as.map (tr Γ)) := by simp [lg_sl]
    have e2 : iniL (a :: as) = (if a.category = 2 then [a, poi] else [a]) ++ iniL as := by simp [iniL]
    rw [e1, e2, List.length_append, List.length_append, ih, tr_cat hΓ]
    by_cases hc : a.category = 2
    · simp [hc]
    · simp [hc]
theorem L_entry {Γ : GT} {k : Nat} {as : List Value} (hΓ : Γ.2.2.2.2 = .null ∨ ∃ t, Γ.2.2.2.2 = .ref t) (hlen : (iniL as).length ≤ mML k) (hlong : lsOK k (iniL as) = true) (hno : ∀ v ∈ as, v.category = 2 → ∃ x, v = .long x) :
    LRel Γ k (iniF k as) ((lg_sl (as.map (tr Γ)) ++ List.replicate (mML k - (lg_sl (as.map (tr Γ))).length) Slot.unset).toArray) := by
  have hl := lv_entry (as.map (tr Γ)) (n := mML k) (by rw [lg_sl_len hΓ]; exact hlen)
  refine ⟨hl.1, hl.2.1, by simp [iniF]; omega, fun j v hj hv => ?_, fun j v hj hcat => ?_⟩
  · by_cases h : j < (iniL as).length
    · rw [iniF, List.getElem?_append_left h] at hj
      have := lv_args_tr (Γ := Γ) hΓ as 0 j v hj hv
      rw [Nat.zero_add] at this
      exact hl.2.2 _ this
    · rw [iniF, List.getElem?_append_right (by omega)] at hj
      have := List.mem_of_getElem? hj
      exact absurd (List.eq_of_mem_replicate this) hv
  · by_cases h : j < (iniL as).length
    · rw [iniF, List.getElem?_append_left h] at hj
      have h1 := List.all_eq_true.mp hlong (v, j) (List.mem_zipIdx_iff_getElem?.mpr hj)
      have h2 : v ∈ iniL as := List.mem_of_getElem? hj
      simp only [iniL, List.mem_flatMap] at h2
      obtain ⟨w, hw, h3⟩ := h2
      by_cases hc : w.category = 2
      · rw [if_pos hc] at h3
        simp only [List.mem_cons, List.not_mem_nil, or_false] at h3
        rcases h3 with rfl | rfl
        · obtain ⟨x, rfl⟩ := hno v hw hcat
          exact h1
        · simp [poi, Value.category] at hcat
      · rw [if_neg hc] at h3
        simp only [List.mem_cons, List.not_mem_nil, or_false] at h3
        subst h3
        exact absurd hcat hc
    · rw [iniF, List.getElem?_append_right (by omega)] at hj
      have := List.eq_of_mem_replicate (List.mem_of_getElem? hj)
      subst this
      simp [poi, Value.category] at hcat
