/-! THE CLAIM OUT OF ONE WALK OF THE LAW'S BODY. Your part is whole_start (and what it stands on); all else here is the same for every law, but numbers. -/
def R_law : String := "PostBusLaw"
def lw_P (b : Addr) (xs : List Int32) (args : Array Value) (s : State) : Prop := args = #[.ref b] ∧ s.IntsAt b xs ∧ xs.length ≤ 3584 ∧ (Jvm.Cond.and given_1 narrow_1).before args s = true
def lw_Q (_ : Array Value) (s : State) (o : Outcome) (t : State) : Prop := o = .returned (some (.int 1)) ∧ Framed s o t [] 601024 7293034
def lw_Z (below : List Frame) (a : Array Value) (s : State) : State → Prop := fun t => ∃ o, t.status = .running ∧ Ended t below o ∧ lw_Q a s o t
/-- the law's own end, with 1 on the stack, nothing written that was there before, its room as the claim has it -/
theorem lw_ret {p : Program} {l : Launch} {e : Env} {s : State} {m : MethodId} {below : List Frame} {meth : Method} {c : Code} {b : Nat} (hx : p.tables.exec = Jvm.exec) (hb : c.code = code) (hr : meth.sig.returnType = ret) (hlocks : meth.locks = false) {pc : Nat} {H : Heap} {ls : Array Slot} (hdg : decode code pc = .ok (.ireturn, 1)) : W p l e room_1 s m #[Value.ref b] below meth c H [] 601024 7293034 (lw_Z below #[Value.ref b] s) (F0 m pc ls [.int 1]) := by
  intro T hT X
  obtain ⟨fs, hret, hrun, hended, hW, hframe⟩ := X.leave (v := some (.int 1)) (hlocks := hlocks) (fun h => by rw [hr] at h; cases h)
  have hmeth' : T.vm.method? m = some meth := X.method'
  refine ⟨T.setFrames fs, ?_, .returned (some (.int 1)), hrun, hended, rfl, ⟨_, rfl⟩, hW, hframe⟩
  jvm_step X.here [X.here.top, hx, hb, hdg, hmeth', hr, ret, narrow_b1]
  (try refine ⟨rfl, ?_⟩); (try refine ⟨rfl, ?_⟩)
  first | (intro acts; rw [hret _ acts rfl rfl rfl]) | rw [hret _ _ rfl rfl rfl]
  exact Steps.refl _
/-- what holds at the law's entry: the machine, the code, the tables' words (any of lw_tbl by 'hts w (by decide +kernel)'), the script of L ints xs at the cell b, what the Statement gives of the start (any of its parts by flat_of_before) -/
def lw_At (p : Program) (s : State) (m : MethodId) (meth : Method) (c : Code) (b L : Nat) (xs : Nat → Int32) : Prop :=
  p.tables.exec = Jvm.exec ∧ c.code = code ∧ meth.sig.returnType = ret ∧ c.maxLocals = 7 ∧ s.vm.findClass R_law = some m.cls ∧ (∀ w ∈ lw_tbl, w.before #[Value.ref b] s = true) ∧ va_X b L xs s s.heap ∧ b < s.heap.size ∧ meth.locks = false ∧ (Jvm.Cond.and given_1 narrow_1).before #[Value.ref b] s = true
/-! OUR PART -/
theorem st_ins : ∀ ci : Nat, ci < 9 → isW (insP ci).1 (.instantiable (clsN ci) (vN ci)) = true := by decide +kernel
def st_tm (i : Nat) : Term := if i = 0 then .string "PostBus$Tape" 19 else .string "PostBus$Reader" 79
abbrev st_F : List Cond := flatC (Jvm.Cond.and given_1 narrow_1)
theorem st_ex : ∀ i : Nat, i < 2 → Cond.exactly (st_tm i) "java/lang/String" ∈ st_F ∧ Cond.eq (.field (st_tm i) "java/lang/String" "coder" "B") (.int 0) ∈ st_F ∧ Cond.arrayOf (.field (st_tm i) "java/lang/String" "value" "[B") .byte ∈ st_F ∧ Cond.eq (.length (.field (st_tm i) "java/lang/String" "value" "[B")) (.int (Int32.ofNat ([lenS 0, lenS 1].getD i 0))) ∈ st_F := by decide +kernel
theorem st_el0 : ∀ j : Nat, j < 88 → Cond.eq (.elem (.field (st_tm 0) "java/lang/String" "value" "[B") (.int (Int32.ofNat j))) (.int ((bytS 0).getD j 0)) ∈ st_F := by decide +kernel
theorem st_el1 : ∀ j : Nat, j < 7 → Cond.eq (.elem (.field (st_tm 1) "java/lang/String" "value" "[B") (.int (Int32.ofNat j))) (.int ((bytS 1).getD j 0)) ∈ st_F := by decide +kernel
theorem st_ne : Cond.not (Cond.eq (st_tm 0) (st_tm 1)) ∈ st_F := by decide +kernel
theorem st_mg : ∀ i : Nat, i < 4 → Cond.exactly (.string RX7 (mgW i).1) "java/lang/String" ∈ st_F := by decide +kernel
def st_mp : Nat → Nat := fun i => match i with
  | 0 => 870
  | 1 => 896
  | 2 => 904
  | _ => 905
theorem st_mw : ∀ i : Nat, i < 4 → lw_tbl[st_mp i]? = some (Cond.stringRef RX7 (mgW i).1 (mgW i).2) := by decide +kernel
theorem st_tx : lw_tbl[460]? = some (Cond.stringRef RX5 19 txW) ∧ lw_tbl[509]? = some (Cond.stringRef RX2 79 "()<=+-;") := by decide +kernel
theorem st_nw : lw_tbl[598]? = some nestW ∧ lw_tbl[833]? = some (Cond.castable nsE nsE) ∧ lw_tbl[835]? = some (dcW 0) ∧ lw_tbl[837]? = some (dcW 1) ∧ lw_tbl[839]? = some (dcW 2) := by decide +kernel
theorem st_sw : lw_tbl[858]? = some (Cond.laysStatic Bundle.tN "UNASSIGNED_STACK" Bundle.steD) ∧ lw_tbl[860]? = some (Cond.laysStatic Bundle.tN "SUPPRESSED_SENTINEL" Bundle.listD) ∧ lw_tbl[77]? = some (Cond.initialized Bundle.tN) ∧ lw_tbl[470]? = some (Cond.laysStatic "java/lang/String" "COMPACT_STRINGS" "Z") ∧ lw_tbl[71]? = some (Cond.initialized "java/lang/String") ∧ lw_tbl[478]? = some (Cond.laysStatic "jdk/internal/util/Preconditions" "SIOOBE_FORMATTER" "Ljava/util/function/BiFunction;") ∧ lw_tbl[73]? = some (Cond.initialized "jdk/internal/util/Preconditions") := by decide +kernel
theorem st_sf : Cond.isRef (.static Bundle.tN "UNASSIGNED_STACK" Bundle.steD) ∈ st_F ∧ Cond.isRef (.static Bundle.tN "SUPPRESSED_SENTINEL" Bundle.listD) ∈ st_F ∧ Cond.eq (.static "java/lang/String" "COMPACT_STRINGS" "Z") (.int 1) ∈ st_F ∧ Cond.isRef (.static "jdk/internal/util/Preconditions" "SIOOBE_FORMATTER" "Ljava/util/function/BiFunction;") ∈ st_F := by decide +kernel
/-- the world at the law's entry -/
theorem st_world {p : Program} {s : State} {m : MethodId} {meth : Method} {c : Code} {b L : Nat} {xs : Nat → Int32} (C0 : lw_At p s m meth c b L xs) : ∃ Γ : GT, Γ.1 = (s.heap.size, b, L, xs) ∧ E0 Γ s ∧ (Γ.2.2.2.2 = .null ∨ ∃ t, Γ.2.2.2.2 = .ref t) := by
  obtain ⟨hx, hb, hr, hml, hown, hts, hX, hbl, hlocks, hgv⟩ := C0
  have hs := flat_of_before _ hgv
  have tb : ∀ {w : Cond} {i : Nat}, lw_tbl[i]? = some w → w.before #[Value.ref b] s = true := fun h => hts _ (List.mem_of_getElem? h)
  have hA : ∀ a : Nat, a < s.heap.size → ¬ (fun q : Nat => s.heap.size ≤ q) a := fun a h => Nat.not_le.mpr h
  have hcl : ∀ ci : Nat, ∃ q : ClassId × (Nat → Nat), ci < 9 → u_Kn s (clsN ci) (vT ci) (vN ci) q.1 q.2 := by
    intro ci
    by_cases h : ci < 9
    · obtain ⟨-, h2, -⟩ := cls_ok h
      obtain ⟨cc, iS, hk⟩ := u_known (C := clsN ci) (T := vT ci) (N := vN ci) (n := vN ci) hts (fun w hw => (List.mem_filter.mp (h2 w hw)).1) (hts _ (List.mem_filter.mp (isW_in (st_ins ci h))).1)
      exact ⟨(cc, iS), fun _ => hk⟩
    · exact ⟨(m.cls, fun _ => 0), fun h' => absurd h' h⟩
  have harr : ∀ t : FieldType, ∃ cA : ClassId, (t = .int ∨ t = .boolean ∨ t = .char ∨ t = .long) → ArrOfT s cA t ∧ va_RA s cA t := by
    intro t
    by_cases h : t = .int ∨ t = .boolean ∨ t = .char ∨ t = .long
    · have hw : (Cond.arrayClass t).before #[Value.ref b] s = true := by
        rcases h with rfl | rfl | rfl | rfl
        · exact hts _ (List.mem_filter.mp arr_int).1
        · exact hts _ (List.mem_filter.mp arr_boolean).1
        · exact hts _ (List.mem_filter.mp arr_char).1
        · exact hts _ (List.mem_filter.mp arr_long).1
      obtain ⟨cA, kA, comp, f1, f2, f3⟩ := Cond.arrayClass_spec hw
      refine ⟨cA, fun _ => ⟨fun n z => ⟨fun k h => (by cases h), kA, f2, comp, f3⟩, ?_⟩⟩
      rcases h with rfl | rfl | rfl | rfl <;> exact f1
    · exact ⟨m.cls, fun h' => absurd h' h⟩
  obtain ⟨D, hD⟩ : ∃ D : Nat → ClassId × (Nat → Nat), ∀ ci, ci < 9 → u_Kn s (clsN ci) (vT ci) (vN ci) (D ci).1 (D ci).2 := ⟨fun ci => Classical.choose (hcl ci), fun ci => Classical.choose_spec (hcl ci)⟩
  obtain ⟨A, hAr⟩ : ∃ A : FieldType → ClassId, ∀ t, (t = .int ∨ t = .boolean ∨ t = .char ∨ t = .long) → ArrOfT s (A t) t ∧ va_RA s (A t) t := ⟨fun t => Classical.choose (harr t), fun t => Classical.choose_spec (harr t)⟩
  obtain ⟨adK, adV, hK, hev⟩ := vk_Sof (args := #[Value.ref b]) (s := s) (N := 2) (tm := st_tm) (len := [lenS 0, lenS 1]) (byt := [bytS 0, bytS 1]) (A := fun q : Nat => s.heap.size ≤ q) (by decide) (fun i hi => hs _ (st_ex i hi).1) (fun i hi => hs _ (st_ex i hi).2.1) (fun i hi => hs _ (st_ex i hi).2.2.1) (fun i hi => hs _ (st_ex i hi).2.2.2)
    (fun i hi j hj => by
      rcases (show i = 0 ∨ i = 1 by omega) with rfl | rfl
      · exact hs _ (st_el0 j hj)
      · exact hs _ (st_el1 j hj))
    (fun i j hi hj hne => by
      rcases (show i = 0 ∨ i = 1 by omega) with rfl | rfl
      · rcases (show j = 0 ∨ j = 1 by omega) with rfl | rfl
        · exact absurd rfl hne
        · exact Or.inl (hs _ st_ne)
      · rcases (show j = 0 ∨ j = 1 by omega) with rfl | rfl
        · exact Or.inr (hs _ st_ne)
        · exact absurd rfl hne) hA
  have hfm := va_Zqof (args := #[Value.ref b]) (A := fun q : Nat => s.heap.size ≤ q) (tb st_sw.2.2.2.2.2.1) (tb st_sw.2.2.2.2.2.2) (hs _ st_sf.2.2.2) hA
  obtain ⟨v, hv0, hv⟩ : ∃ v : Value, (v = .null ∨ ∃ t, v = .ref t) ∧ va_Z "jdk/internal/util/Preconditions" "SIOOBE_FORMATTER" "Ljava/util/function/BiFunction;" v (fun q : Nat => s.heap.size ≤ q) s s.heap := by
    rcases hfm with h | ⟨t, h⟩
    · exact ⟨_, Or.inl rfl, h⟩
    · exact ⟨_, Or.inr ⟨t, rfl⟩, h⟩
  refine ⟨((s.heap.size, b, L, xs), (adK, adV), (fun ci => (D ci).1, fun ci => (D ci).2), A, v), rfl, ?_, hv0⟩
  refine ⟨⟨?_, ?_⟩, ⟨va_Nw.of rfl (tb st_nw.1), ⟨va_Nw.of rfl (tb st_nw.2.1), va_Nw.of rfl (tb st_nw.2.2.1), va_Nw.of rfl (tb st_nw.2.2.2.1), va_Nw.of rfl (tb st_nw.2.2.2.2)⟩, vx_Zqof (tb st_sw.1) (tb st_sw.2.2.1) (hs _ st_sf.1) hA, vx_Zqof (tb st_sw.2.1) (tb st_sw.2.2.1) (hs _ st_sf.2.1) hA, ?_⟩, vk_R.of (tb st_tx.1) (hev 0 (by decide)), vk_R.of (tb st_tx.2) (hev 1 (by decide)), hK, va_Zof (tb st_sw.2.2.2.1) (tb st_sw.2.2.2.2.1) (va_eqt (hs _ st_sf.2.2.1)) hA, hv, hX, hbl, hA b hbl⟩
  · intro ci q hq
    have hlt : ci < 9 := (List.getElem?_eq_some_iff.mp hq).1
    obtain ⟨h1, -⟩ := cls_ok hlt
    cases Option.some.inj (h1.symm.trans hq)
    exact hD ci hlt
  · intro k q hq
    simp only [tysG] at hq
    match k, hq with
    | 0, hq => cases hq; exact hAr _ (Or.inl rfl)
    | 1, hq => cases hq; exact hAr _ (Or.inr (Or.inl rfl))
    | 2, hq => cases hq; exact hAr _ (Or.inr (Or.inr (Or.inl rfl)))
    | 3, hq => cases hq; exact hAr _ (Or.inr (Or.inr (Or.inr rfl)))
    | k + 4, hq => simp at hq
  · intro i hi
    obtain ⟨a, -, -, -, q1, -⟩ := Cond.exactly_spec (args := #[Value.ref b]) (first := s) (o := none) (s := s) (idx := []) (hs _ (st_mg i hi))
    exact ⟨a, vk_R.of (tb (st_mw i hi)) q1⟩
theorem st_fin {rv sf : List Value} {pf : Nat} (h : retV 149 pf sf = some rv) (h1 : rv = [.int 1]) : decode code pf = .ok (.ireturn, 1) ∧ sf = [.int 1] := by
  subst h1
  unfold retV at h
  split at h
  · rename_i hd
    split at h
    · split at h
      · cases h
        exact ⟨hd, rfl⟩
      · cases h
    · cases h
  · split at h
    · simp at h
    · cases h
  · split at h
    · split at h
      · simp [thr] at h
      · cases h
    · cases h
  · cases h
/-- from the entry, for every script of at most 3584 ints, the law comes to its end with true -/
theorem whole_start {p : Program} {e : Env} {s : State} {m : MethodId} {below : List Frame} {meth : Method} {c : Code} (l : Launch) (hl : l.stackTraces = false) {b L : Nat} {xs : Nat → Int32} (hL : L ≤ 3584) (C0 : lw_At p s m meth c b L xs) : W p l e room_1 s m #[Value.ref b] below meth c s.heap [] 0 0 (lw_Z below #[Value.ref b] s) (entryFrame m ([Value.ref b] : List Value).toArray 7) := by
  obtain ⟨Γ, hΓ1, hE, hΓ⟩ := st_world C0
  obtain ⟨hx, hb, hr, hml, hown, hts, hX, hbl, hlocks, hgv⟩ := C0
  obtain ⟨n, pf, sf, hf, rv, hev, hrv, h1, h2, h3⟩ := law_ok (L := L) (xs := xs) hL
  obtain ⟨hd, rfl⟩ := st_fin hrv h1
  have hCx : Cx Γ p s m #[Value.ref b] meth c 149 := ⟨hx, hb, hml, hown, fun w hw => hts w (List.mem_filter.mp hw).1, fun h => absurd h (by decide), hE, hΓ⟩
  have hbase : Γ.1.1 = s.heap.size := by rw [hΓ1]
  have hlast : ∀ lsf, Wst Γ p l e room_1 s m #[Value.ref b] below meth c (lw_Z below #[Value.ref b] s) 149 (0, 0) pf lsf [.int 1] hf := by
    intro lsf H locs lsC hH hS hLr _ _
    refine va_forget (fun q hq => by rw [← hbase]; exact hS.2.2 q hq) ?_
    refine W.widen (k := 601024) (n := 7293034) (by show hf.1.1 - 0 ≤ 601024; omega) (by show hf.1.2 - 0 ≤ 7293034; omega) ?_
    exact lw_ret hx hb hr hlocks hd
  have K := ev_sound (Γ := Γ) hl n 149 (dep 149 [.ref 1000000]) 0 (iniF 149 [.ref 1000000]) [] ((0, 0), 0, F00 L xs) pf [.int 1] hf (Or.inr rfl) hev (e := e) (R := room_1) (below := below) (z := (0, 0)) hCx (by rw [hbase]; exact Nat.le_refl _) (by show hf.1.1 - 0 ≤ 601024; omega) (by show hf.1.2 - 0 ≤ 7293034; omega) (by decide +kernel) (by decide +kernel) hlast
  have hH : HRel Γ ((0, 0), 0, F00 L xs) s.heap := by
    refine ⟨fun k q hq => by simp [wsO] at hq, by rw [hbase]; exact Nat.le_refl _, ?_, (show (0 : Nat) < 1000000 by decide)⟩
    rw [hΓ1]
    simp [F00]
  have hLe := L_entry (Γ := Γ) (k := 149) (as := [.ref 1000000]) hΓ (by decide +kernel) (by decide +kernel) (fun v hv hc => by
    simp only [List.mem_cons, List.not_mem_nil, or_false] at hv
    subst hv
    simp [Value.category] at hc)
  have hbm : [Value.ref 1000000].map (tr Γ) = [Value.ref b] := by
    simp [tr, rb, hΓ1]
  rw [hbm] at hLe
  rw [lg_entry_eq]
  exact K s.heap [] _ hH va_S.rf hLe (Nat.le_refl _) (Nat.le_refl _)
set_option maxHeartbeats 4000000 in
theorem lw_walk (l : Launch) (hl : l.stackTraces = false) (b : Addr) (xs : List Int32) : MetFree l x (headSpec (Jvm.Cond.code x code maxLocals ret :: tables_1) room_1) (lw_P b xs) (fun _ _ _ _ _ => True) lw_Q := by
  refine MetFree.of_bodyS (code := code) (maxLocals := maxLocals) (ret := ret) (by decide) ?_ ?_
  · intro args s m h hn
    obtain ⟨meth, c, h1, h2, h3, h4, h5, h6, -, -⟩ := Cond.code_spec hn (atoms_spec (ws := Jvm.Cond.code x code maxLocals ret :: tables_1) h _ List.mem_cons_self)
    exact ⟨meth, c, h1, h2, h3, h4, h5, h6⟩
  · intro p e s m args below meth c s₁ B hml0 hP _
    obtain ⟨rfl, hx, hbd, hgv⟩ := hP
    obtain ⟨scr, harrAt, hlist, hof, hsmall⟩ := hx
    obtain ⟨hcb, hkn, -, -⟩ := State.arrayAt?_spec harrAt
    have hown : s.vm.findClass R_law = some m.cls := findClass_of_methodNamed B.named
    have hts0 : ∀ c ∈ (Jvm.Cond.code x code maxLocals ret :: tables_1), c.before #[Value.ref b] s = true := atoms_spec (ws := Jvm.Cond.code x code maxLocals ret :: tables_1) B.pre
    have hts : ∀ w ∈ lw_tbl, w.before #[Value.ref b] s = true := k2_hts_sels lw_privs (fun w hw => hts0 w (List.mem_cons_of_mem _ hw)) lw_privs_ok
    have hml : c.maxLocals = 7 := B.maxLocals_eq (hts0 _ List.mem_cons_self)
    have X₀ : Stand p l e room_1 s m #[Value.ref b] below meth c s₁ [] 0 0 := Stand.of_body B
    have hh0 : s₁.heap = s.heap := by rw [B.state]; rfl
    have hsz : scr.slots.size = xs.length := by rw [← Array.length_toList, hlist, List.length_map]
    have hval : ∀ j : Nat, j < xs.length → scr.slots[j]? = some (.int (xs.getD j 0)) := fun j hj => by
      rw [← Array.getElem?_toList, hlist]
      simp [hj]
    have hbl : b < s.heap.size := (Array.getElem?_eq_some_iff.mp hcb).1
    have hX : va_X b xs.length (fun j => xs.getD j 0) s s.heap := ⟨scr, hcb, hof, hkn, hsz, hval⟩
    have K : W p l e room_1 s m #[Value.ref b] below meth c s₁.heap [] 0 0 (lw_Z below #[Value.ref b] s) (entryFrame m ([Value.ref b] : List Value).toArray 7) := by
      rw [hh0]
      exact whole_start l hl hbd ⟨B.exec, B.bytes, B.returns, hml, hown, hts, hX, hbl, B.notSynchronized, hgv⟩
    obtain ⟨t, a1, o, b1, b2, b3⟩ := K s₁ rfl X₀
    exact ⟨t, o, a1, b1, b2, b3⟩
theorem lw_pre_spec {args : Array Value} {s : State} (h : (Jvm.Cond.and given_1 narrow_1).before args s = true) (hr : rest_1_c.before args s = true) : ∃ (b : Addr) (xs : List Int32), lw_P b xs args s := by
  have hs := flat_of_before _ h
  have hq := flat_of_before _ hr
  have hc : (Cond.count 1).before args s = true := hs _ (by decide +kernel)
  have harr : (Cond.arrayOf (.arg 0) .int).before args s = true := hs _ (by decide +kernel)
  have hle : (Cond.le (.length (.arg 0)) (.int 3584)).before args s = true := hs _ (by decide +kernel)
  have hlen : (Cond.isInt (.length (.arg 0))).before args s = true := hq _ (by decide +kernel)
  have hall : (Cond.all (.arg 0) (.isInt (.elem (.arg 0) (.index 0)))).before args s = true := hq _ (by decide +kernel)
  obtain ⟨b, xs, hb, hx⟩ := State.ints_of_pre rfl harr hlen hall
  have hsm : xs.length < 2 ^ 31 := hx.choose_spec.2.2.2
  have hev : (Term.length (.arg 0)).eval args s none [] s = some (.int xs.length.toInt32) := hx.length_eval hb
  have hv := Cond.le_ints hev (show (Term.int 3584).eval args s none [] s = some (.int 3584) from rfl)
  have hd : xs.length.toInt32 ≤ 3584 := by
    simpa [Cond.before, Cond.holds, hv] using hle
  have hN : xs.length ≤ 3584 := (Int32.ofNat_le_ofNat hsm (by decide)).mp (show Int32.ofNat xs.length ≤ Int32.ofNat 3584 from hd)
  exact ⟨b, xs, Cond.one_arg hc (show args[0]? = some (.ref b) from hb), hx, hN, h⟩
theorem lw_comes (l : Launch) (hl : l.stackTraces = false) : Comes l x (Jvm.Cond.code x code maxLocals ret :: tables_1) room_1 (fun tb e args s => Calls_1 tb e args s ∧ rest_1 tb e args s ∧ Pre_1 tb e args s)
    (fun _ _ args s o t => lw_Q args s o t) := by
  intro p e ha hc hk s m args below hf hfit hheap happ hpre
  obtain ⟨b, xs, hP⟩ := lw_pre_spec hpre.2.2 hpre.2.1
  obtain ⟨k, o, h1, h2, h3, hQ⟩ := lw_walk l hl b xs p e ha hc hk s m args below hf ((Spec.applies_iff_loose hf).mp happ).1 hP trivial
  exact ⟨k, o, h1, h2, h3, hQ⟩
theorem lw_frame {s t : State} {o : Outcome} {args : Array Value} (h : Framed s o t [] 601024 7293034) :
    Framed s o t (fieldLocs frame_1_writes args s ++ arrayLocs frame_1_arrays args s ++ staticLocs frame_1_statics s) 601024 7293034 := h
theorem lw_limb (L : Cond) (hL : ∀ (args : Array Value) (s t : State), L.after args s (.returned (some (.int 1))) t = true) :
    ArmFor flags0 classFile x code maxLocals ret World_1 tables_1 room_1 Calls_1 rest_1 Pre_1
      (fun tb e a s o t => postC L tb e a s o t ∧ Framed s o t (fieldLocs frame_1_writes a s ++ arrayLocs frame_1_arrays a s ++ staticLocs frame_1_statics s) 601024 7293034) := by
  intro l hfl _ _ p e ha hc hk s m args below hf hfit hheap happ hpre
  have hl : l.stackTraces = false := by
    unfold Launch.stackTraces
    rw [hfl]
    decide +kernel
  obtain ⟨k, o, h1, h2, h3, rfl, hF⟩ := lw_comes l hl p e ha hc hk s m args below hf hfit hheap happ hpre
  exact ⟨k, _, h1, h2, h3, hL args s _, lw_frame hF⟩
theorem i_vc : Claimed_1_1 ∧ Claimed_1_2 := ⟨lw_limb limb_1_1 (fun args s t => by simp [limb_1_1, Cond.after, Cond.holds, Cond.value]), lw_limb limb_1_2 (fun args s t => Cond.after_iff.mpr (by
  first | (rw [show limb_1_2 = Cond.eq .result (.int 1) from rfl, Cond.eq_ints (x := 1) (y := 1) rfl rfl]; simp; done) | (simp [limb_1_2, Cond.value, Term.eval]; done)))⟩
