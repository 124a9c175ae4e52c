/-! THE WORLD BEHIND THE CONSTRUCTORS: 131 cells of a fixed shape; X: what ints a cell holds, Z: what longs -/
def shp (a : Nat) (x : Nat → Int32) (y : Nat → Int64) : AE := match a with
  | 0 => .inr (7, [.ref 1, .ref 9, .ref 11, .ref 16, .ref 25, .ref 49, .ref 73, .int (x 7)])
  | 1 => .inr (3, [.int (x 0), .ref 2, .ref 3, .int (x 3), .ref 4, .ref 5, .ref 6, .ref 7, .ref 8])
  | 2 => .inl (.int, 10, .inl x)
  | 3 => .inl (.boolean, 10, .inl x)
  | 4 => .inl (.int, 20, .inl x)
  | 5 => .inl (.int, 20, .inl x)
  | 6 => .inl (.int, 20, .inl x)
  | 7 => .inl (.int, 8, .inl x)
  | 8 => .inl (.int, 8, .inl x)
  | 9 => .inr (5, [.ref 10, .int (x 1)])
  | 10 => .inl (.char, 800, .inl x)
  | 11 => .inr (4, [.int (x 0), .ref 12, .ref 13, .ref 14, .ref 15, .int (x 5)])
  | 12 => .inl (.int, 24, .inl x)
  | 13 => .inl (.int, 24, .inl x)
  | 14 => .inl (.int, 24, .inl x)
  | 15 => .inl (.int, 800, .inl x)
  | 16 => .inr (2, [.ref 17, .ref 22, .ref 23, .ref 24, .int (x 4), .int (x 5)])
  | 17 => .inr (4, [.int (x 0), .ref 18, .ref 19, .ref 20, .ref 21, .int (x 5)])
  | 18 => .inl (.int, 24, .inl x)
  | 19 => .inl (.int, 24, .inl x)
  | 20 => .inl (.int, 24, .inl x)
  | 21 => .inl (.int, 800, .inl x)
  | 22 => .inl (.int, 800, .inl x)
  | 23 => .inl (.int, 800, .inl x)
  | 24 => .inl (.int, 800, .inl x)
  | 25 => .inr (6, [.ref 1, .ref 11, .ref 26, .ref 39, .ref 48, .int (x 5)])
  | 26 => .inr (0, [.int (x 0), .ref 27, .ref 28, .ref 29, .ref 30, .ref 31, .ref 32, .ref 33, .ref 34, .ref 35, .ref 36, .ref 37, .ref 38])
  | 27 => .inl (.boolean, 12, .inl x)
  | 28 => .inl (.int, 12, .inl x)
  | 29 => .inl (.int, 12, .inl x)
  | 30 => .inl (.int, 12, .inl x)
  | 31 => .inl (.int, 12, .inl x)
  | 32 => .inl (.int, 12, .inl x)
  | 33 => .inl (.int, 12, .inl x)
  | 34 => .inl (.int, 12, .inl x)
  | 35 => .inl (.int, 12, .inl x)
  | 36 => .inl (.int, 12, .inl x)
  | 37 => .inl (.int, 12, .inl x)
  | 38 => .inl (.int, 12, .inl x)
  | 39 => .inr (1, [.int (x 0), .ref 40, .ref 41, .ref 42, .ref 43, .ref 44, .ref 45, .ref 46, .ref 47])
  | 40 => .inl (.int, 80, .inl x)
  | 41 => .inl (.int, 80, .inl x)
  | 42 => .inl (.int, 80, .inl x)
  | 43 => .inl (.int, 80, .inl x)
  | 44 => .inl (.int, 80, .inl x)
  | 45 => .inl (.int, 80, .inl x)
  | 46 => .inl (.int, 80, .inl x)
  | 47 => .inl (.int, 80, .inl x)
  | 48 => .inl (.int, 32, .inl x)
  | 49 => .inr (6, [.ref 1, .ref 11, .ref 50, .ref 63, .ref 72, .int (x 5)])
  | 50 => .inr (0, [.int (x 0), .ref 51, .ref 52, .ref 53, .ref 54, .ref 55, .ref 56, .ref 57, .ref 58, .ref 59, .ref 60, .ref 61, .ref 62])
  | 51 => .inl (.boolean, 12, .inl x)
  | 52 => .inl (.int, 12, .inl x)
  | 53 => .inl (.int, 12, .inl x)
  | 54 => .inl (.int, 12, .inl x)
  | 55 => .inl (.int, 12, .inl x)
  | 56 => .inl (.int, 12, .inl x)
  | 57 => .inl (.int, 12, .inl x)
  | 58 => .inl (.int, 12, .inl x)
  | 59 => .inl (.int, 12, .inl x)
  | 60 => .inl (.int, 12, .inl x)
  | 61 => .inl (.int, 12, .inl x)
  | 62 => .inl (.int, 12, .inl x)
  | 63 => .inr (1, [.int (x 0), .ref 64, .ref 65, .ref 66, .ref 67, .ref 68, .ref 69, .ref 70, .ref 71])
  | 64 => .inl (.int, 80, .inl x)
  | 65 => .inl (.int, 80, .inl x)
  | 66 => .inl (.int, 80, .inl x)
  | 67 => .inl (.int, 80, .inl x)
  | 68 => .inl (.int, 80, .inl x)
  | 69 => .inl (.int, 80, .inl x)
  | 70 => .inl (.int, 80, .inl x)
  | 71 => .inl (.int, 80, .inl x)
  | 72 => .inl (.int, 32, .inl x)
  | 73 => .inr (6, [.ref 1, .ref 11, .ref 74, .ref 87, .ref 96, .int (x 5)])
  | 74 => .inr (0, [.int (x 0), .ref 75, .ref 76, .ref 77, .ref 78, .ref 79, .ref 80, .ref 81, .ref 82, .ref 83, .ref 84, .ref 85, .ref 86])
  | 75 => .inl (.boolean, 12, .inl x)
  | 76 => .inl (.int, 12, .inl x)
  | 77 => .inl (.int, 12, .inl x)
  | 78 => .inl (.int, 12, .inl x)
  | 79 => .inl (.int, 12, .inl x)
  | 80 => .inl (.int, 12, .inl x)
  | 81 => .inl (.int, 12, .inl x)
  | 82 => .inl (.int, 12, .inl x)
  | 83 => .inl (.int, 12, .inl x)
  | 84 => .inl (.int, 12, .inl x)
  | 85 => .inl (.int, 12, .inl x)
  | 86 => .inl (.int, 12, .inl x)
  | 87 => .inr (1, [.int (x 0), .ref 88, .ref 89, .ref 90, .ref 91, .ref 92, .ref 93, .ref 94, .ref 95])
  | 88 => .inl (.int, 80, .inl x)
  | 89 => .inl (.int, 80, .inl x)
  | 90 => .inl (.int, 80, .inl x)
  | 91 => .inl (.int, 80, .inl x)
  | 92 => .inl (.int, 80, .inl x)
  | 93 => .inl (.int, 80, .inl x)
  | 94 => .inl (.int, 80, .inl x)
  | 95 => .inl (.int, 80, .inl x)
  | 96 => .inl (.int, 32, .inl x)
  | 97 => .inr (8, [.int (x 0), .ref 98, .int (x 2), .int (x 3), .ref 99, .ref 100, .ref 101, .int (x 7), .int (x 8), .ref 102, .int (x 10), .ref 103, .ref 104, .int (x 13), .ref 105, .ref 106, .ref 107, .ref 108, .int (x 18), .ref 109, .ref 110, .ref 111, .ref 112, .int (x 23), .ref 113, .ref 114, .ref 115, .ref 116, .int (x 28), .ref 117, .ref 118, .ref 119, .ref 120, .ref 121, .ref 122, .ref 123, .ref 124, .ref 125, .int (x 38), .int (x 39), .int (x 40), .int (x 41), .ref 126, .ref 127, .ref 128, .ref 129, .int (x 46)])
  | 98 => .inl (.int, 800, .inl x)
  | 99 => .inl (.int, 802, .inl x)
  | 100 => .inl (.int, 802, .inl x)
  | 101 => .inl (.long, 802, .inr (.inl y))
  | 102 => .inl (.long, 11, .inr (.inl y))
  | 103 => .inl (.int, 10, .inl x)
  | 104 => .inl (.boolean, 10, .inl x)
  | 105 => .inl (.boolean, 12, .inl x)
  | 106 => .inl (.int, 12, .inl x)
  | 107 => .inl (.int, 12, .inl x)
  | 108 => .inl (.int, 12, .inl x)
  | 109 => .inl (.int, 80, .inl x)
  | 110 => .inl (.int, 80, .inl x)
  | 111 => .inl (.int, 80, .inl x)
  | 112 => .inl (.int, 80, .inl x)
  | 113 => .inl (.int, 392, .inl x)
  | 114 => .inl (.int, 392, .inl x)
  | 115 => .inl (.int, 8, .inl x)
  | 116 => .inl (.int, 8, .inl x)
  | 117 => .inl (.int, 20, .inl x)
  | 118 => .inl (.int, 20, .inl x)
  | 119 => .inl (.int, 20, .inl x)
  | 120 => .inl (.int, 2, .inl x)
  | 121 => .inl (.int, 48, .inl x)
  | 122 => .inl (.int, 48, .inl x)
  | 123 => .inl (.int, 48, .inl x)
  | 124 => .inl (.int, 1760, .inl x)
  | 125 => .inl (.int, 1760, .inl x)
  | 126 => .inl (.int, 7, .inl x)
  | 127 => .inl (.int, 7, .inl x)
  | 128 => .inl (.int, 7, .inl x)
  | 129 => .inl (.int, 880, .inl x)
  | 130 => .inl (.long, 1, .inr (.inl y))
  | _ => .inl (.int, 0, .inl x)
def hX (u : Nat × Nat) (L : Nat) (xs : Nat → Int32) (X : Nat → Nat → Int32) (Z : Nat → Nat → Int64) : AH := (u, 131, fun a => if a = 1000000 then .inl (.int, L, .inl xs) else shp a (X a) (Z a))
def isWd (w : Nat) : Prop := w = 25 ∨ w = 49 ∨ w = 73
def isRu (q : Nat) : Prop := q = 11 ∨ q = 17
/-- the contents with those of the world at w put anew -/
def pw (X : Nat → Nat → Int32) (w : Nat) (V : Nat → Nat → Int32) : Nat → Nat → Int32 := fun a => if w ≤ a ∧ a < w + 24 then V (a - w) else X a
/-- the contents of the world at w -/
def wv (X : Nat → Nat → Int32) (w : Nat) : Nat → Nat → Int32 := fun o => X (w + o)
def hW (u : Nat × Nat) (L : Nat) (xs : Nat → Int32) (X : Nat → Nat → Int32) (Z : Nat → Nat → Int64) (w : Nat) (V : Nat → Nat → Int32) : AH := hX u L xs (pw X w V) Z
section
variable {u : Nat × Nat} {L : Nat} {xs : Nat → Int32} {X : Nat → Nat → Int32} {Z : Nat → Nat → Int64} {w : Nat} {V : Nat → Nat → Int32}
theorem hX_at {a : Nat} (h : a < 131) : (hX u L xs X Z).2.2 a = shp a (X a) (Z a) := by
  show (if a = 1000000 then _ else _) = _
  rw [if_neg (by omega)]
theorem hX_set {a : Nat} (ha : a < 131) {F : Nat → Int32} : setC (hX u L xs X Z) a (shp a F (Z a)) = hX u L xs (va_up X a F) Z := by
  unfold setC hX
  refine congrArg (fun f => (u, 131, f)) (funext fun b => ?_)
  show va_up (fun a => if a = 1000000 then _ else shp a (X a) (Z a)) a (shp a F (Z a)) b = _
  unfold va_up
  by_cases e : b = a
  · subst e
    rw [if_pos rfl, if_neg (by omega), if_pos rfl]
  · rw [if_neg e]
    by_cases e2 : b = 1000000
    · simp [e2]
    · simp [e2, e]
theorem hX_setL {a : Nat} (ha : a < 131) {G : Nat → Int64} : setC (hX u L xs X Z) a (shp a (X a) G) = hX u L xs X (va_up Z a G) := by
  unfold setC hX
  refine congrArg (fun f => (u, 131, f)) (funext fun b => ?_)
  show va_up (fun a => if a = 1000000 then _ else shp a (X a) (Z a)) a (shp a (X a) G) b = _
  unfold va_up
  by_cases e : b = a
  · subst e
    rw [if_pos rfl, if_neg (by omega), if_pos rfl]
  · rw [if_neg e]
    by_cases e2 : b = 1000000
    · simp [e2]
    · simp [e2, e]
theorem pw_at {o : Nat} (h : o < 24) : pw X w V (w + o) = V o := by
  unfold pw
  rw [if_pos ⟨Nat.le_add_right w o, by omega⟩, Nat.add_sub_cancel_left]
theorem pw_at0 : pw X w V w = V 0 := pw_at (o := 0) (by decide)
theorem pw_lo (hw : isWd w) {a : Nat} (h : a < 25) : pw X w V a = X a := by
  unfold pw
  rw [if_neg]
  rcases hw with rfl | rfl | rfl <;> omega
theorem pw_hi (hw : isWd w) {a : Nat} (h : 97 ≤ a) : pw X w V a = X a := by
  unfold pw
  rw [if_neg]
  rcases hw with rfl | rfl | rfl <;> omega
theorem pw_up {o : Nat} (h : o < 24) {F : Nat → Int32} : va_up (pw X w V) (w + o) F = pw X w (va_up V o F) := by
  funext a
  unfold va_up pw
  by_cases e : a = w + o
  · subst e
    rw [if_pos rfl, if_pos ⟨Nat.le_add_right w o, by omega⟩, Nat.add_sub_cancel_left]
    simp
  · rw [if_neg e]
    by_cases e2 : w ≤ a ∧ a < w + 24
    · rw [if_pos e2, if_pos e2]
      have e3 : ¬ a - w = o := by omega
      simp [e3]
    · rw [if_neg e2, if_neg e2]
theorem pw_self : pw X w (wv X w) = X := by
  funext a
  unfold pw wv
  split
  · rename_i h
    rw [Nat.add_sub_cancel' h.1]
  · rfl
theorem hX_hW : hX u L xs X Z = hW u L xs X Z w (wv X w) := by rw [hW, pw_self]
theorem wd_lt (hw : isWd w) : w < 131 ∧ w + 24 < 131 := by rcases hw with rfl | rfl | rfl <;> decide
theorem ru_lt {q : Nat} (hq : isRu q) : q + 6 < 131 := by rcases hq with rfl | rfl <;> decide
end
theorem recvS {k' a : Nat} {as : List Value} {h : AH} (hk : mC k' = 10) (h1 : 1000001 ≤ a) (h2 : a < 1000003) : recvOK 0 k' (.ref a :: as) h = true := by
  simp [recvOK, hk, h1, h2]
section
variable {k d pc : Nat} {ls st : List Value} {h : AH} {Q : List Value → AH → Prop}
theorem w_iconst {n : Int} {v : Int32} (hd : decode (mCode k) pc = .ok (.iconst n, 1)) (hv : Int32.ofInt n = v) : WP k d pc ls (st) h Q ↔ WP k d (pc + 1) ls (.int v :: st) h Q := WP_to (y := (pc + 1, ls, .int v :: st, h)) hd rfl rfl rfl rfl (by subst hv; rfl)
theorem w_bipush {n : Int} {v : Int32} (hd : decode (mCode k) pc = .ok (.bipush n, 2)) (hv : (Int8.ofInt n).toInt32 = v) : WP k d pc ls (st) h Q ↔ WP k d (pc + 2) ls (.int v :: st) h Q := WP_to (y := (pc + 2, ls, .int v :: st, h)) hd rfl rfl rfl rfl (by subst hv; rfl)
theorem w_sipush {n : Int} {v : Int32} (hd : decode (mCode k) pc = .ok (.sipush n, 3)) (hv : (Int16.ofInt n).toInt32 = v) : WP k d pc ls (st) h Q ↔ WP k d (pc + 3) ls (.int v :: st) h Q := WP_to (y := (pc + 3, ls, .int v :: st, h)) hd rfl rfl rfl rfl (by subst hv; rfl)
theorem w_lconst {n : Fin 2} {v : Int64} (hd : decode (mCode k) pc = .ok (.lconst n, 1)) (hv : Int64.ofNat (n : Nat) = v) : WP k d pc ls (st) h Q ↔ WP k d (pc + 1) ls (.long v :: st) h Q := WP_to (y := (pc + 1, ls, .long v :: st, h)) hd rfl rfl rfl rfl (by subst hv; rfl)
theorem w_iload_n {n : Fin 4} {v : Int32} (hd : decode (mCode k) pc = .ok (.iload_n n, 1)) (hv : getI ls (n : Nat) = some v) : WP k d pc ls (st) h Q ↔ WP k d (pc + 1) ls (.int v :: st) h Q := WP_to (y := (pc + 1, ls, .int v :: st, h)) hd rfl rfl rfl rfl (by show (getI ls (n : Nat)).map _ = _; rw [hv]; rfl)
theorem w_iload {n : Nat} {v : Int32} (hd : decode (mCode k) pc = .ok (.iload n, 2)) (hv : getI ls (n : Nat) = some v) : WP k d pc ls (st) h Q ↔ WP k d (pc + 2) ls (.int v :: st) h Q := WP_to (y := (pc + 2, ls, .int v :: st, h)) hd rfl rfl rfl rfl (by show (getI ls (n : Nat)).map _ = _; rw [hv]; rfl)
theorem w_lload_n {n : Fin 4} {v : Int64} (hd : decode (mCode k) pc = .ok (.lload_n n, 1)) (hv : getL ls (n : Nat) = some v) : WP k d pc ls (st) h Q ↔ WP k d (pc + 1) ls (.long v :: st) h Q := WP_to (y := (pc + 1, ls, .long v :: st, h)) hd rfl rfl rfl rfl (by show (getL ls (n : Nat)).map _ = _; rw [hv]; rfl)
theorem w_lload {n : Nat} {v : Int64} (hd : decode (mCode k) pc = .ok (.lload n, 2)) (hv : getL ls (n : Nat) = some v) : WP k d pc ls (st) h Q ↔ WP k d (pc + 2) ls (.long v :: st) h Q := WP_to (y := (pc + 2, ls, .long v :: st, h)) hd rfl rfl rfl rfl (by show (getL ls (n : Nat)).map _ = _; rw [hv]; rfl)
theorem w_aload_n {n : Fin 4} {v : Nat} (hd : decode (mCode k) pc = .ok (.aload_n n, 1)) (hv : getR ls (n : Nat) = some v) : WP k d pc ls (st) h Q ↔ WP k d (pc + 1) ls (.ref v :: st) h Q := WP_to (y := (pc + 1, ls, .ref v :: st, h)) hd rfl rfl rfl rfl (by show (getR ls (n : Nat)).map _ = _; rw [hv]; rfl)
theorem w_aload {n : Nat} {v : Nat} (hd : decode (mCode k) pc = .ok (.aload n, 2)) (hv : getR ls (n : Nat) = some v) : WP k d pc ls (st) h Q ↔ WP k d (pc + 2) ls (.ref v :: st) h Q := WP_to (y := (pc + 2, ls, .ref v :: st, h)) hd rfl rfl rfl rfl (by show (getR ls (n : Nat)).map _ = _; rw [hv]; rfl)
theorem w_istore_n {n : Fin 4} {v : Int32} {l2 : List Value} (hd : decode (mCode k) pc = .ok (.istore_n n, 1)) (hv : sto1 k ls (n : Nat) (.int v) = some l2) : WP k d pc ls (.int v :: st) h Q ↔ WP k d (pc + 1) l2 (st) h Q := WP_to (y := (pc + 1, l2, st, h)) hd rfl rfl rfl rfl (by show (sto1 k ls (n : Nat) (.int v)).map _ = _; rw [hv]; rfl)
theorem w_istore {n : Nat} {v : Int32} {l2 : List Value} (hd : decode (mCode k) pc = .ok (.istore n, 2)) (hv : sto1 k ls (n : Nat) (.int v) = some l2) : WP k d pc ls (.int v :: st) h Q ↔ WP k d (pc + 2) l2 (st) h Q := WP_to (y := (pc + 2, l2, st, h)) hd rfl rfl rfl rfl (by show (sto1 k ls (n : Nat) (.int v)).map _ = _; rw [hv]; rfl)
theorem w_astore_n {n : Fin 4} {v : Nat} {l2 : List Value} (hd : decode (mCode k) pc = .ok (.astore_n n, 1)) (h20 : v < 1000020) (hv : sto1 k ls (n : Nat) (.ref v) = some l2) : WP k d pc ls (.ref v :: st) h Q ↔ WP k d (pc + 1) l2 (st) h Q := WP_to (y := (pc + 1, l2, st, h)) hd rfl rfl rfl rfl (by show (if v < 1000020 then (sto1 k ls (n : Nat) (.ref v)).map _ else none) = _; rw [if_pos h20, hv]; rfl)
theorem w_lstore {n : Nat} {v : Int64} {l2 : List Value} (hd : decode (mCode k) pc = .ok (.lstore n, 2)) (hv : sto2 k ls n v = some l2) : WP k d pc ls (.long v :: st) h Q ↔ WP k d (pc + 2) l2 (st) h Q := WP_to (y := (pc + 2, l2, st, h)) hd rfl rfl rfl rfl (by show (sto2 k ls n v).map _ = _; rw [hv]; rfl)
theorem w_iinc {n : Nat} {c : Int} {v : Int32} {l2 : List Value} (hd : decode (mCode k) pc = .ok (.iinc n c, 3)) (hg : getI ls n = some v) (hv : sto1 k ls n (.int (v + Int32.ofInt c)) = some l2) : WP k d pc ls (st) h Q ↔ WP k d (pc + 3) l2 (st) h Q := WP_to (y := (pc + 3, l2, st, h)) hd rfl rfl rfl rfl (by show (match getI ls n with | some v => (sto1 k ls n (.int (v + Int32.ofInt c))).map _ | none => none) = _; rw [hg]; simp only [hv]; rfl)
theorem w_iadd {x y : Int32} (hd : decode (mCode k) pc = .ok (.iadd, 1))  : WP k d pc ls (.int y :: .int x :: st) h Q ↔ WP k d (pc + 1) ls (.int (x + y) :: st) h Q := WP_to (y := (pc + 1, ls, .int (x + y) :: st, h)) hd rfl rfl rfl rfl (rfl)
theorem w_isub {x y : Int32} (hd : decode (mCode k) pc = .ok (.isub, 1))  : WP k d pc ls (.int y :: .int x :: st) h Q ↔ WP k d (pc + 1) ls (.int (x - y) :: st) h Q := WP_to (y := (pc + 1, ls, .int (x - y) :: st, h)) hd rfl rfl rfl rfl (rfl)
theorem w_imul {x y : Int32} (hd : decode (mCode k) pc = .ok (.imul, 1))  : WP k d pc ls (.int y :: .int x :: st) h Q ↔ WP k d (pc + 1) ls (.int (x * y) :: st) h Q := WP_to (y := (pc + 1, ls, .int (x * y) :: st, h)) hd rfl rfl rfl rfl (rfl)
theorem w_iand {x y : Int32} (hd : decode (mCode k) pc = .ok (.iand, 1))  : WP k d pc ls (.int y :: .int x :: st) h Q ↔ WP k d (pc + 1) ls (.int (x &&& y) :: st) h Q := WP_to (y := (pc + 1, ls, .int (x &&& y) :: st, h)) hd rfl rfl rfl rfl (rfl)
theorem w_ishr {x y : Int32} (hd : decode (mCode k) pc = .ok (.ishr, 1))  : WP k d pc ls (.int y :: .int x :: st) h Q ↔ WP k d (pc + 1) ls (.int (x >>> (y &&& 31)) :: st) h Q := WP_to (y := (pc + 1, ls, .int (x >>> (y &&& 31)) :: st, h)) hd rfl rfl rfl rfl (rfl)
theorem w_idiv {x y : Int32} (hd : decode (mCode k) pc = .ok (.idiv, 1)) (hy : ¬ y = 0) : WP k d pc ls (.int y :: .int x :: st) h Q ↔ WP k d (pc + 1) ls (.int (x / y) :: st) h Q := WP_to (y := (pc + 1, ls, .int (x / y) :: st, h)) hd rfl rfl rfl rfl (by show (if y = 0 then none else _) = _; rw [if_neg hy])
theorem w_irem {x y : Int32} (hd : decode (mCode k) pc = .ok (.irem, 1)) (hy : ¬ y = 0) : WP k d pc ls (.int y :: .int x :: st) h Q ↔ WP k d (pc + 1) ls (.int (x - x / y * y) :: st) h Q := WP_to (y := (pc + 1, ls, .int (x - x / y * y) :: st, h)) hd rfl rfl rfl rfl (by show (if y = 0 then none else _) = _; rw [if_neg hy])
theorem w_ineg {x : Int32} (hd : decode (mCode k) pc = .ok (.ineg, 1))  : WP k d pc ls (.int x :: st) h Q ↔ WP k d (pc + 1) ls (.int (-x) :: st) h Q := WP_to (y := (pc + 1, ls, .int (-x) :: st, h)) hd rfl rfl rfl rfl (rfl)
theorem w_i2b {x : Int32} (hd : decode (mCode k) pc = .ok (.i2b, 1))  : WP k d pc ls (.int x :: st) h Q ↔ WP k d (pc + 1) ls (.int (x.toInt8.toInt32) :: st) h Q := WP_to (y := (pc + 1, ls, .int (x.toInt8.toInt32) :: st, h)) hd rfl rfl rfl rfl (rfl)
theorem w_i2c {x : Int32} (hd : decode (mCode k) pc = .ok (.i2c, 1))  : WP k d pc ls (.int x :: st) h Q ↔ WP k d (pc + 1) ls (.int ((x.toUInt32 % 65536).toInt32) :: st) h Q := WP_to (y := (pc + 1, ls, .int ((x.toUInt32 % 65536).toInt32) :: st, h)) hd rfl rfl rfl rfl (rfl)
theorem w_ladd {x y : Int64} (hd : decode (mCode k) pc = .ok (.ladd, 1))  : WP k d pc ls (.long y :: .long x :: st) h Q ↔ WP k d (pc + 1) ls (.long (x + y) :: st) h Q := WP_to (y := (pc + 1, ls, .long (x + y) :: st, h)) hd rfl rfl rfl rfl (rfl)
theorem w_lsub {x y : Int64} (hd : decode (mCode k) pc = .ok (.lsub, 1))  : WP k d pc ls (.long y :: .long x :: st) h Q ↔ WP k d (pc + 1) ls (.long (x - y) :: st) h Q := WP_to (y := (pc + 1, ls, .long (x - y) :: st, h)) hd rfl rfl rfl rfl (rfl)
theorem w_lmul {x y : Int64} (hd : decode (mCode k) pc = .ok (.lmul, 1))  : WP k d pc ls (.long y :: .long x :: st) h Q ↔ WP k d (pc + 1) ls (.long (x * y) :: st) h Q := WP_to (y := (pc + 1, ls, .long (x * y) :: st, h)) hd rfl rfl rfl rfl (rfl)
theorem w_land {x y : Int64} (hd : decode (mCode k) pc = .ok (.land, 1))  : WP k d pc ls (.long y :: .long x :: st) h Q ↔ WP k d (pc + 1) ls (.long (x &&& y) :: st) h Q := WP_to (y := (pc + 1, ls, .long (x &&& y) :: st, h)) hd rfl rfl rfl rfl (rfl)
theorem w_lor {x y : Int64} (hd : decode (mCode k) pc = .ok (.lor, 1))  : WP k d pc ls (.long y :: .long x :: st) h Q ↔ WP k d (pc + 1) ls (.long (x ||| y) :: st) h Q := WP_to (y := (pc + 1, ls, .long (x ||| y) :: st, h)) hd rfl rfl rfl rfl (rfl)
theorem w_lshl {x : Int64} {y : Int32} (hd : decode (mCode k) pc = .ok (.lshl, 1))  : WP k d pc ls (.int y :: .long x :: st) h Q ↔ WP k d (pc + 1) ls (.long (x <<< (y.toInt64 &&& 63)) :: st) h Q := WP_to (y := (pc + 1, ls, .long (x <<< (y.toInt64 &&& 63)) :: st, h)) hd rfl rfl rfl rfl (rfl)
theorem w_lshr {x : Int64} {y : Int32} (hd : decode (mCode k) pc = .ok (.lshr, 1))  : WP k d pc ls (.int y :: .long x :: st) h Q ↔ WP k d (pc + 1) ls (.long (x >>> (y.toInt64 &&& 63)) :: st) h Q := WP_to (y := (pc + 1, ls, .long (x >>> (y.toInt64 &&& 63)) :: st, h)) hd rfl rfl rfl rfl (rfl)
theorem w_lushr {x : Int64} {y : Int32} (hd : decode (mCode k) pc = .ok (.lushr, 1))  : WP k d pc ls (.int y :: .long x :: st) h Q ↔ WP k d (pc + 1) ls (.long ((x.toUInt64 >>> (y.toInt64.toUInt64 &&& Int64.toUInt64 63)).toInt64) :: st) h Q := WP_to (y := (pc + 1, ls, .long ((x.toUInt64 >>> (y.toInt64.toUInt64 &&& Int64.toUInt64 63)).toInt64) :: st, h)) hd rfl rfl rfl rfl (rfl)
theorem w_lcmp {x y : Int64} (hd : decode (mCode k) pc = .ok (.lcmp, 1))  : WP k d pc ls (.long y :: .long x :: st) h Q ↔ WP k d (pc + 1) ls (.int (lg_cmp x y) :: st) h Q := WP_to (y := (pc + 1, ls, .int (lg_cmp x y) :: st, h)) hd rfl rfl rfl rfl (rfl)
theorem w_i2l {x : Int32} (hd : decode (mCode k) pc = .ok (.i2l, 1))  : WP k d pc ls (.int x :: st) h Q ↔ WP k d (pc + 1) ls (.long x.toInt64 :: st) h Q := WP_to (y := (pc + 1, ls, .long x.toInt64 :: st, h)) hd rfl rfl rfl rfl (rfl)
theorem w_l2i {x : Int64} (hd : decode (mCode k) pc = .ok (.l2i, 1))  : WP k d pc ls (.long x :: st) h Q ↔ WP k d (pc + 1) ls (.int x.toInt32 :: st) h Q := WP_to (y := (pc + 1, ls, .int x.toInt32 :: st, h)) hd rfl rfl rfl rfl (rfl)
theorem w_dupI {x : Int32} (hd : decode (mCode k) pc = .ok (.dup, 1))  : WP k d pc ls (.int x :: st) h Q ↔ WP k d (pc + 1) ls (.int x :: .int x :: st) h Q := WP_to (y := (pc + 1, ls, .int x :: .int x :: st, h)) hd rfl rfl rfl rfl (rfl)
theorem w_dupR {a : Nat} (hd : decode (mCode k) pc = .ok (.dup, 1)) (ha : a < 1000020) : WP k d pc ls (.ref a :: st) h Q ↔ WP k d (pc + 1) ls (.ref a :: .ref a :: st) h Q := WP_to (y := (pc + 1, ls, .ref a :: .ref a :: st, h)) hd rfl rfl rfl rfl (by show (if a < 1000020 then _ else none) = _; rw [if_pos ha])
theorem w_dup2 {x : Int32} {a : Nat} (hd : decode (mCode k) pc = .ok (.dup2, 1)) (ha : a < 1000020) : WP k d pc ls (.int x :: .ref a :: st) h Q ↔ WP k d (pc + 1) ls (.int x :: .ref a :: .int x :: .ref a :: st) h Q := WP_to (y := (pc + 1, ls, .int x :: .ref a :: .int x :: .ref a :: st, h)) hd rfl rfl rfl rfl (by show (if a < 1000020 then _ else none) = _; rw [if_pos ha])
theorem w_pop {x : Int32} (hd : decode (mCode k) pc = .ok (.pop, 1))  : WP k d pc ls (.int x :: st) h Q ↔ WP k d (pc + 1) ls (st) h Q := WP_to (y := (pc + 1, ls, st, h)) hd rfl rfl rfl rfl (rfl)
theorem w_goto {off : Int} {t : Nat} (hd : decode (mCode k) pc = .ok (.goto off, 3)) (ht : tgO pc off = some t) : WP k d pc ls st h Q ↔ WP k d t ls st h Q := WP_to (y := (t, ls, st, h)) hd rfl rfl rfl rfl (by show (tgO pc off).map _ = _; rw [ht]; rfl)
theorem w_icmp_eq {x y : Int32} {off : Int} {t : Nat} (hd : decode (mCode k) pc = .ok (.if_icmp .eq off, 3)) (ht : tgO pc off = some t) : WP k d pc ls (.int y :: .int x :: st) h Q ↔ if x = y then WP k d t ls st h Q else WP k d (pc + 3) ls st h Q := WP_ite (y := (t, ls, st, h)) (z := (pc + 3, ls, st, h)) hd rfl rfl rfl rfl (fun q => by show brO (cI .eq x y) pc off ls st h = _; unfold brO; rw [ht]; exact if_pos (decide_eq_true q)) (fun q => by show brO (cI .eq x y) pc off ls st h = _; unfold brO; rw [ht]; exact if_neg (fun w => q (of_decide_eq_true w)))
theorem w_if_eq {x : Int32} {off : Int} {t : Nat} (hd : decode (mCode k) pc = .ok (.ifCond .eq off, 3)) (ht : tgO pc off = some t) : WP k d pc ls (.int x :: st) h Q ↔ if x = 0 then WP k d t ls st h Q else WP k d (pc + 3) ls st h Q := WP_ite (y := (t, ls, st, h)) (z := (pc + 3, ls, st, h)) hd rfl rfl rfl rfl (fun q => by show brO (cI .eq x 0) pc off ls st h = _; unfold brO; rw [ht]; exact if_pos (decide_eq_true q)) (fun q => by show brO (cI .eq x 0) pc off ls st h = _; unfold brO; rw [ht]; exact if_neg (fun w => q (of_decide_eq_true w)))
theorem w_icmp_ne {x y : Int32} {off : Int} {t : Nat} (hd : decode (mCode k) pc = .ok (.if_icmp .ne off, 3)) (ht : tgO pc off = some t) : WP k d pc ls (.int y :: .int x :: st) h Q ↔ if ¬ x = y then WP k d t ls st h Q else WP k d (pc + 3) ls st h Q := WP_ite (y := (t, ls, st, h)) (z := (pc + 3, ls, st, h)) hd rfl rfl rfl rfl (fun q => by show brO (cI .ne x y) pc off ls st h = _; unfold brO; rw [ht]; exact if_pos (decide_eq_true q)) (fun q => by show brO (cI .ne x y) pc off ls st h = _; unfold brO; rw [ht]; exact if_neg (fun w => q (of_decide_eq_true w)))
theorem w_if_ne {x : Int32} {off : Int} {t : Nat} (hd : decode (mCode k) pc = .ok (.ifCond .ne off, 3)) (ht : tgO pc off = some t) : WP k d pc ls (.int x :: st) h Q ↔ if ¬ x = 0 then WP k d t ls st h Q else WP k d (pc + 3) ls st h Q := WP_ite (y := (t, ls, st, h)) (z := (pc + 3, ls, st, h)) hd rfl rfl rfl rfl (fun q => by show brO (cI .ne x 0) pc off ls st h = _; unfold brO; rw [ht]; exact if_pos (decide_eq_true q)) (fun q => by show brO (cI .ne x 0) pc off ls st h = _; unfold brO; rw [ht]; exact if_neg (fun w => q (of_decide_eq_true w)))
theorem w_icmp_lt {x y : Int32} {off : Int} {t : Nat} (hd : decode (mCode k) pc = .ok (.if_icmp .lt off, 3)) (ht : tgO pc off = some t) : WP k d pc ls (.int y :: .int x :: st) h Q ↔ if x < y then WP k d t ls st h Q else WP k d (pc + 3) ls st h Q := WP_ite (y := (t, ls, st, h)) (z := (pc + 3, ls, st, h)) hd rfl rfl rfl rfl (fun q => by show brO (cI .lt x y) pc off ls st h = _; unfold brO; rw [ht]; exact if_pos (decide_eq_true q)) (fun q => by show brO (cI .lt x y) pc off ls st h = _; unfold brO; rw [ht]; exact if_neg (fun w => q (of_decide_eq_true w)))
theorem w_if_lt {x : Int32} {off : Int} {t : Nat} (hd : decode (mCode k) pc = .ok (.ifCond .lt off, 3)) (ht : tgO pc off = some t) : WP k d pc ls (.int x :: st) h Q ↔ if x < 0 then WP k d t ls st h Q else WP k d (pc + 3) ls st h Q := WP_ite (y := (t, ls, st, h)) (z := (pc + 3, ls, st, h)) hd rfl rfl rfl rfl (fun q => by show brO (cI .lt x 0) pc off ls st h = _; unfold brO; rw [ht]; exact if_pos (decide_eq_true q)) (fun q => by show brO (cI .lt x 0) pc off ls st h = _; unfold brO; rw [ht]; exact if_neg (fun w => q (of_decide_eq_true w)))
theorem w_icmp_ge {x y : Int32} {off : Int} {t : Nat} (hd : decode (mCode k) pc = .ok (.if_icmp .ge off, 3)) (ht : tgO pc off = some t) : WP k d pc ls (.int y :: .int x :: st) h Q ↔ if y ≤ x then WP k d t ls st h Q else WP k d (pc + 3) ls st h Q := WP_ite (y := (t, ls, st, h)) (z := (pc + 3, ls, st, h)) hd rfl rfl rfl rfl (fun q => by show brO (cI .ge x y) pc off ls st h = _; unfold brO; rw [ht]; exact if_pos (decide_eq_true q)) (fun q => by show brO (cI .ge x y) pc off ls st h = _; unfold brO; rw [ht]; exact if_neg (fun w => q (of_decide_eq_true w)))
theorem w_if_ge {x : Int32} {off : Int} {t : Nat} (hd : decode (mCode k) pc = .ok (.ifCond .ge off, 3)) (ht : tgO pc off = some t) : WP k d pc ls (.int x :: st) h Q ↔ if 0 ≤ x then WP k d t ls st h Q else WP k d (pc + 3) ls st h Q := WP_ite (y := (t, ls, st, h)) (z := (pc + 3, ls, st, h)) hd rfl rfl rfl rfl (fun q => by show brO (cI .ge x 0) pc off ls st h = _; unfold brO; rw [ht]; exact if_pos (decide_eq_true q)) (fun q => by show brO (cI .ge x 0) pc off ls st h = _; unfold brO; rw [ht]; exact if_neg (fun w => q (of_decide_eq_true w)))
theorem w_icmp_gt {x y : Int32} {off : Int} {t : Nat} (hd : decode (mCode k) pc = .ok (.if_icmp .gt off, 3)) (ht : tgO pc off = some t) : WP k d pc ls (.int y :: .int x :: st) h Q ↔ if y < x then WP k d t ls st h Q else WP k d (pc + 3) ls st h Q := WP_ite (y := (t, ls, st, h)) (z := (pc + 3, ls, st, h)) hd rfl rfl rfl rfl (fun q => by show brO (cI .gt x y) pc off ls st h = _; unfold brO; rw [ht]; exact if_pos (decide_eq_true q)) (fun q => by show brO (cI .gt x y) pc off ls st h = _; unfold brO; rw [ht]; exact if_neg (fun w => q (of_decide_eq_true w)))
theorem w_if_gt {x : Int32} {off : Int} {t : Nat} (hd : decode (mCode k) pc = .ok (.ifCond .gt off, 3)) (ht : tgO pc off = some t) : WP k d pc ls (.int x :: st) h Q ↔ if 0 < x then WP k d t ls st h Q else WP k d (pc + 3) ls st h Q := WP_ite (y := (t, ls, st, h)) (z := (pc + 3, ls, st, h)) hd rfl rfl rfl rfl (fun q => by show brO (cI .gt x 0) pc off ls st h = _; unfold brO; rw [ht]; exact if_pos (decide_eq_true q)) (fun q => by show brO (cI .gt x 0) pc off ls st h = _; unfold brO; rw [ht]; exact if_neg (fun w => q (of_decide_eq_true w)))
theorem w_icmp_le {x y : Int32} {off : Int} {t : Nat} (hd : decode (mCode k) pc = .ok (.if_icmp .le off, 3)) (ht : tgO pc off = some t) : WP k d pc ls (.int y :: .int x :: st) h Q ↔ if x ≤ y then WP k d t ls st h Q else WP k d (pc + 3) ls st h Q := WP_ite (y := (t, ls, st, h)) (z := (pc + 3, ls, st, h)) hd rfl rfl rfl rfl (fun q => by show brO (cI .le x y) pc off ls st h = _; unfold brO; rw [ht]; exact if_pos (decide_eq_true q)) (fun q => by show brO (cI .le x y) pc off ls st h = _; unfold brO; rw [ht]; exact if_neg (fun w => q (of_decide_eq_true w)))
theorem w_if_le {x : Int32} {off : Int} {t : Nat} (hd : decode (mCode k) pc = .ok (.ifCond .le off, 3)) (ht : tgO pc off = some t) : WP k d pc ls (.int x :: st) h Q ↔ if x ≤ 0 then WP k d t ls st h Q else WP k d (pc + 3) ls st h Q := WP_ite (y := (t, ls, st, h)) (z := (pc + 3, ls, st, h)) hd rfl rfl rfl rfl (fun q => by show brO (cI .le x 0) pc off ls st h = _; unfold brO; rw [ht]; exact if_pos (decide_eq_true q)) (fun q => by show brO (cI .le x 0) pc off ls st h = _; unfold brO; rw [ht]; exact if_neg (fun w => q (of_decide_eq_true w)))
theorem w_tsOut {df lo hi : Int} {offs : Array Int} {len : Nat} {x : Int32} {t : Nat} (hd : decode (mCode k) pc = .ok (.tableswitch df lo hi offs, len)) (ht : tgO pc df = some t) (hx : x.toInt < lo ∨ hi < x.toInt) : WP k d pc ls (.int x :: st) h Q ↔ WP k d t ls st h Q := WP_to (y := (t, ls, st, h)) hd rfl rfl rfl rfl (by show (if x.toInt < lo ∨ hi < x.toInt then (tgO pc df).map _ else _) = _; rw [if_pos hx, ht]; rfl)
theorem w_tsIn {df lo hi : Int} {offs : Array Int} {len : Nat} {x : Int32} {t : Nat} {off : Int} (hd : decode (mCode k) pc = .ok (.tableswitch df lo hi offs, len)) (hx : ¬ (x.toInt < lo ∨ hi < x.toInt)) (ho : offs[(x.toInt - lo).toNat]? = some off) (ht : tgO pc off = some t) : WP k d pc ls (.int x :: st) h Q ↔ WP k d t ls st h Q := WP_to (y := (t, ls, st, h)) hd rfl rfl rfl rfl (by show (if x.toInt < lo ∨ hi < x.toInt then _ else (match offs[(x.toInt - lo).toNat]? with | some off => (tgO pc off).map _ | none => none)) = _; rw [if_neg hx, ho]; simp only [ht]; rfl)
theorem w_ls {df : Int} {ps : Array (Int × Int)} {len : Nat} {x : Int32} {t : Nat} (hd : decode (mCode k) pc = .ok (.lookupswitch df ps, len)) (hp : (ps.toList.zip (ps.toList.drop 1)).all (fun (a, next) => a.1 < next.1) = true) (ht : tgO pc (Op.lookupswitch.offset ps.toList df x.toInt) = some t) : WP k d pc ls (.int x :: st) h Q ↔ WP k d t ls st h Q := WP_to (y := (t, ls, st, h)) hd rfl rfl rfl rfl (by show (if (ps.toList.zip (ps.toList.drop 1)).all (fun (a, next) => a.1 < next.1) = true then _ else none) = _; rw [if_pos hp, ht]; rfl)
theorem w_ldc2 {idx : Nat} {v : Int64} (hd : decode (mCode k) pc = .ok (.ldc2_w idx, 3)) (hv : cstC (mC k) idx = some v) : WP k d pc ls (st) h Q ↔ WP k d (pc + 3) ls (.long v :: st) h Q := WP_to (y := (pc + 3, ls, .long v :: st, h)) hd rfl rfl rfl rfl (by show (cstC (mC k) idx).map _ = _; rw [hv]; rfl)
theorem w_mth {idx q : Nat} {v : Int32} {r : List Value} (hd : decode (mCode k) pc = .ok (.invokestatic idx, 3)) (hc : cal (mC k) idx = none) (hw : wrapOf k (.invokestatic idx) = none) (ha : acpC (mC k) idx = false) (hq : mthC (mC k) idx = some q) (hv : mthV q st = some (v, r)) (hcat : catS r ≤ 8) : WP k d pc ls st h Q ↔ WP k d (pc + 3) ls (.int v :: r) h Q := by
  refine WP_to (y := (pc + 3, ls, .int v :: r, h)) hd rfl rfl (by show (match cal (mC k) idx with | some (kd, k') => _ | none => none) = none; rw [hc]) hw ?_
  show (if acpC (mC k) idx = true then _ else _) = _
  rw [if_neg (by rw [ha]; decide), hq]
  simp only [hv, if_pos hcat]
theorem w_iret {v : Int32} (hd : decode (mCode k) pc = .ok (.ireturn, 1)) (hr : mRet k = some .int) : WP k d pc ls [.int v] h Q ↔ Q [.int v] h := by
  rw [WP_fin hd rfl rfl]
  simp [retV, hd, hr, narrow]
theorem w_tret {v : Int32} {ty : FieldType} (hd : decode (mCode k) pc = .ok (.ireturn, 1)) (hr : mRet k = some ty) : WP k d pc ls [.int v] h Q ↔ narrow ty (.int v) = .int v ∧ Q [.int v] h := by
  rw [WP_fin hd rfl rfl]
  by_cases e : narrow ty (.int v) = .int v
  · simp [retV, hd, hr, e]
  · simp [retV, hd, hr, e]
theorem w_zret {v : Int32} (hd : decode (mCode k) pc = .ok (.ireturn, 1)) (hr : mRet k = some .boolean) : WP k d pc ls [.int v] h Q ↔ v &&& 1 = v ∧ Q [.int v] h := by
  rw [w_tret hd hr]
  simp [narrow]
theorem w_ret (hd : decode (mCode k) pc = .ok (.return_, 1)) (hr : mRet k = none) : WP k d pc ls [] h Q ↔ Q [] h := by
  rw [WP_fin hd rfl rfl]
  simp [retV, hd, hr]
theorem w_thr (hd : decode (mCode k) pc = .ok (.new 149, 3)) (hk : k = 87 ∨ k = 88) (hn : nxOK k pc = true) : WP k d pc ls [] h Q ↔ Q [thr] h := by
  rw [WP_fin hd rfl (by simp [isFin, hk])]
  simp [retV, hd, hn]
theorem cAr_of {kd k' : Nat} {as r : List Value} (hst : st = as.reverse ++ r) (hp : mPar k' = as.length) (hcat : catS r ≤ 8) (hrec : recvOK kd k' as h = true) (hok : as.all okA = true) (hls : lsOK k' (iniL as) = true) (hlen : (iniL as).length ≤ mML k') (hrk : rk k' (dep k' as) < rk k d) : cAr k d kd k' st h = some (as, r) := by
  have h1 : st.take (mPar k') = as.reverse := by rw [hst, hp]; exact List.take_left' (by simp)
  have h2 : st.drop (mPar k') = r := by rw [hst, hp]; exact List.drop_left' (by simp)
  unfold cAr
  rw [h1, h2, List.reverse_reverse]
  rw [if_pos ⟨by rw [hst, hp]; simp, hcat, hrec, by rw [List.all_reverse]; exact hok, hls, hlen, hrk⟩]
theorem w_callV {idx k' : Nat} {as r : List Value} (hd : decode (mCode k) pc = .ok (.invokevirtual idx, 3)) (hc : cal (mC k) idx = some (0, k')) (hst : st = as.reverse ++ r) (hp : mPar k' = as.length) (hcat : catS r ≤ 8) (hrec : recvOK 0 k' as h = true) (hok : as.all okA = true) (hls : lsOK k' (iniL as) = true) (hlen : (iniL as).length ≤ mML k') (hrk : rk k' (dep k' as) < rk k d) : WP k d pc ls st h Q ↔ Call k' as h (fun rv h' => rv ≠ [thr] ∧ WP k d (pc + 3) ls (rv ++ r) h' Q) :=
  WP_call hd rfl rfl (by show (match cal (mC k) idx with | some (kd, k') => _ | none => none) = _; rw [hc]; rfl) (cAr_of hst hp hcat hrec hok hls hlen hrk)
theorem w_callS {idx k' kd : Nat} {as r : List Value} (hd : decode (mCode k) pc = .ok (.invokestatic idx, 3)) (hc : cal (mC k) idx = some (kd, k')) (hk : kd = 1 ∨ kd = 3) (hst : st = as.reverse ++ r) (hp : mPar k' = as.length) (hcat : catS r ≤ 8) (hok : as.all okA = true) (hls : lsOK k' (iniL as) = true) (hlen : (iniL as).length ≤ mML k') (hrk : rk k' (dep k' as) < rk k d) : WP k d pc ls st h Q ↔ Call k' as h (fun rv h' => rv ≠ [thr] ∧ WP k d (pc + 3) ls (rv ++ r) h' Q) :=
  WP_call (kd := kd) hd rfl rfl (by show (match cal (mC k) idx with | some (kd, k') => _ | none => none) = _; rw [hc]; exact if_pos hk) (cAr_of hst hp hcat (by rcases hk with rfl | rfl <;> rfl) hok hls hlen hrk)
section
variable {u : Nat × Nat} {L : Nat} {xs : Nat → Int32} {X : Nat → Nat → Int32} {Z : Nat → Nat → Int64} {w : Nat} {V : Nat → Nat → Int32}
theorem x_getf {idx ci j a : Nat} (v : (Nat → Int32) → (Nat → Int64) → Value) (hd : decode (mCode k) pc = .ok (.getfield idx, 3)) (hk : mC k ≠ 10) (hf : fld (mC k) idx = some (ci, j)) (ha : a < 131) (hg : ∀ x y, gF (shp a x y) ci j = some (v x y)) : WP k d pc ls (.ref a :: st) (hX u L xs X Z) Q ↔ WP k d (pc + 3) ls (v (X a) (Z a) :: st) (hX u L xs X Z) Q := by
  refine WP_to (y := (pc + 3, ls, v (X a) (Z a) :: st, hX u L xs X Z)) hd rfl rfl rfl rfl ?_
  show gfO k idx pc ls (.ref a :: st) (hX u L xs X Z) = _
  unfold gfO
  simp only [if_neg hk, hf, hX_at ha, hg]
  rw [if_pos (show a < (hX u L xs X Z).2.1 from ha)]
  rfl
theorem x_putf {idx ci j a : Nat} {v : Int32} (hd : decode (mCode k) pc = .ok (.putfield idx, 3)) (hf : fld (mC k) idx = some (ci, j)) (hfin : (vT ci j).2.2.2 = false) (hty : vTy ci j = .int) (ha : a < 131) (hg : ∀ x y, pF (shp a x y) ci j (.int v) = some (shp a (upd x j v) y)) : WP k d pc ls (.int v :: .ref a :: st) (hX u L xs X Z) Q ↔ WP k d (pc + 3) ls st (hX u L xs (va_up X a (upd (X a) j v)) Z) Q := by
  refine WP_to (y := (pc + 3, ls, st, hX u L xs (va_up X a (upd (X a) j v)) Z)) hd rfl rfl rfl rfl ?_
  show pfO k idx pc ls (.int v :: .ref a :: st) (hX u L xs X Z) = _
  unfold pfO
  simp only [hf, hX_at ha, hg]
  rw [if_pos ⟨show a < (hX u L xs X Z).2.1 from ha, by rw [hty]; simp [okV, fits, narrow], Or.inl hfin⟩]
  simp only [Option.map_some, hX_set ha]
theorem x_ld {a n : Nat} {j : Int32} {ty : FieldType} {i : Instr} (hi : i = .iaload ∧ ty = .int ∨ i = .baload ∧ ty = .boolean ∨ i = .caload ∧ ty = .char) (hd : decode (mCode k) pc = .ok (i, 1)) (ha : a < 131) (hs : ∀ x y, shp a x y = .inl (ty, n, .inl x)) : WP k d pc ls (.int j :: .ref a :: st) (hX u L xs X Z) Q ↔ inB j n = true ∧ WP k d (pc + 1) ls (.int (X a j.toNatClampNeg) :: st) (hX u L xs X Z) Q := by
  have key : ldO ty pc ls (.int j :: .ref a :: st) (hX u L xs X Z) = if inB j n = true then some (pc + 1, ls, .int (X a j.toNatClampNeg) :: st, hX u L xs X Z) else none := by
    unfold ldO
    simp only [hX_at ha, hs]
    rw [if_pos (Or.inl (show a < (hX u L xs X Z).2.1 from ha))]
    unfold ldI
    by_cases e : inB j n = true
    · simp [e]
    · simp [e]
  rcases hi with ⟨rfl, rfl⟩ | ⟨rfl, rfl⟩ | ⟨rfl, rfl⟩ <;>
  exact WP_if (y := (pc + 1, ls, .int (X a j.toNatClampNeg) :: st, hX u L xs X Z)) hd rfl rfl rfl rfl (fun q => key.trans (if_pos q)) (fun q => key.trans (if_neg q))
theorem x_st {a n : Nat} {j v : Int32} {ty : FieldType} {i : Instr} (hi : i = .iastore ∧ ty = .int ∨ i = .bastore ∧ ty = .boolean ∨ i = .castore ∧ ty = .char) (hd : decode (mCode k) pc = .ok (i, 1)) (ha : a < 131) (hs : ∀ x y, shp a x y = .inl (ty, n, .inl x)) : WP k d pc ls (.int v :: .int j :: .ref a :: st) (hX u L xs X Z) Q ↔ inB j n = true ∧ WP k d (pc + 1) ls st (hX u L xs (va_up X a (upd (X a) j.toNatClampNeg (vp_nar ty v))) Z) Q := by
  have key : stO ty pc ls (.int v :: .int j :: .ref a :: st) (hX u L xs X Z) = if inB j n = true then some (pc + 1, ls, st, hX u L xs (va_up X a (upd (X a) j.toNatClampNeg (vp_nar ty v))) Z) else none := by
    unfold stO
    simp only [hX_at ha, hs]
    rw [if_pos (show a < (hX u L xs X Z).2.1 from ha)]
    unfold stI
    by_cases e : inB j n = true
    · simp only [e, and_self, if_true, Option.map_some]
      rw [← hs (upd (X a) j.toNatClampNeg (vp_nar ty v)) (Z a), hX_set ha]
    · simp [e]
  rcases hi with ⟨rfl, rfl⟩ | ⟨rfl, rfl⟩ | ⟨rfl, rfl⟩ <;>
  exact WP_if (y := (pc + 1, ls, st, _)) hd rfl rfl rfl rfl (fun q => key.trans (if_pos q)) (fun q => key.trans (if_neg q))
theorem x_ldL {a n : Nat} {j : Int32} (hd : decode (mCode k) pc = .ok (.laload, 1)) (ha : a < 131) (hs : ∀ x y, shp a x y = .inl (.long, n, .inr (.inl y))) : WP k d pc ls (.int j :: .ref a :: st) (hX u L xs X Z) Q ↔ inB j n = true ∧ WP k d (pc + 1) ls (.long (Z a j.toNatClampNeg) :: st) (hX u L xs X Z) Q := by
  have key : sI k .laload pc ls (.int j :: .ref a :: st) (hX u L xs X Z) = if inB j n = true then some (pc + 1, ls, .long (Z a j.toNatClampNeg) :: st, hX u L xs X Z) else none := by
    show (if a < (hX u L xs X Z).2.1 then (ldL ((hX u L xs X Z).2.2 a) j).map _ else none) = _
    rw [if_pos (show a < (hX u L xs X Z).2.1 from ha), hX_at ha, hs]
    unfold ldL
    by_cases e : inB j n = true
    · simp [e]
    · simp [e]
  exact WP_if (y := (pc + 1, ls, _, _)) hd rfl rfl rfl rfl (fun q => key.trans (if_pos q)) (fun q => key.trans (if_neg q))
theorem x_stL {a n : Nat} {j : Int32} {v : Int64} (hd : decode (mCode k) pc = .ok (.lastore, 1)) (ha : a < 131) (hs : ∀ x y, shp a x y = .inl (.long, n, .inr (.inl y))) : WP k d pc ls (.long v :: .int j :: .ref a :: st) (hX u L xs X Z) Q ↔ inB j n = true ∧ WP k d (pc + 1) ls st (hX u L xs X (va_up Z a (vp_updL (Z a) j.toNatClampNeg v))) Q := by
  have key : sI k .lastore pc ls (.long v :: .int j :: .ref a :: st) (hX u L xs X Z) = if inB j n = true then some (pc + 1, ls, st, hX u L xs X (va_up Z a (vp_updL (Z a) j.toNatClampNeg v))) else none := by
    show (if a < (hX u L xs X Z).2.1 then (stL ((hX u L xs X Z).2.2 a) j v).map _ else none) = _
    rw [if_pos (show a < (hX u L xs X Z).2.1 from ha), hX_at ha, hs]
    unfold stL
    by_cases e : inB j n = true
    · simp only [e, and_self, if_true, Option.map_some]
      rw [← hs (X a) (vp_updL (Z a) j.toNatClampNeg v), hX_setL ha]
    · simp [e]
  exact WP_if (y := (pc + 1, ls, st, _)) hd rfl rfl rfl rfl (fun q => key.trans (if_pos q)) (fun q => key.trans (if_neg q))
theorem w_getf {idx ci j o : Nat} {v : Value} (hw : isWd w) (hd : decode (mCode k) pc = .ok (.getfield idx, 3)) (hk : mC k ≠ 10) (hf : fld (mC k) idx = some (ci, j)) (ho : o < 24) (hg : ∀ x y, gF (shp (w + o) x y) ci j = some v) : WP k d pc ls (.ref (w + o) :: st) (hW u L xs X Z w V) Q ↔ WP k d (pc + 3) ls (v :: st) (hW u L xs X Z w V) Q :=
  x_getf (fun _ _ => v) hd hk hf (by have := wd_lt hw; omega) hg
theorem w_getfi {idx ci j o : Nat} (hw : isWd w) (hd : decode (mCode k) pc = .ok (.getfield idx, 3)) (hk : mC k ≠ 10) (hf : fld (mC k) idx = some (ci, j)) (ho : o < 24) (hg : ∀ x y, gF (shp (w + o) x y) ci j = some (.int (x j))) : WP k d pc ls (.ref (w + o) :: st) (hW u L xs X Z w V) Q ↔ WP k d (pc + 3) ls (.int (V o j) :: st) (hW u L xs X Z w V) Q := by
  rw [hW, x_getf (fun x _ => .int (x j)) hd hk hf (by have := wd_lt hw; omega) hg, pw_at ho]
theorem w_putf {idx ci j o : Nat} {v : Int32} (hw : isWd w) (hd : decode (mCode k) pc = .ok (.putfield idx, 3)) (hf : fld (mC k) idx = some (ci, j)) (hfin : (vT ci j).2.2.2 = false) (hty : vTy ci j = .int) (ho : o < 24) (hg : ∀ x y, pF (shp (w + o) x y) ci j (.int v) = some (shp (w + o) (upd x j v) y)) : WP k d pc ls (.int v :: .ref (w + o) :: st) (hW u L xs X Z w V) Q ↔ WP k d (pc + 3) ls st (hW u L xs X Z w (va_up V o (upd (V o) j v))) Q := by
  rw [hW, x_putf hd hf hfin hty (by have := wd_lt hw; omega) hg, pw_at ho, pw_up ho, hW]
theorem w_ld {o n : Nat} {j : Int32} {ty : FieldType} {i : Instr} (hw : isWd w) (hi : i = .iaload ∧ ty = .int ∨ i = .baload ∧ ty = .boolean ∨ i = .caload ∧ ty = .char) (hd : decode (mCode k) pc = .ok (i, 1)) (ho : o < 24) (hs : ∀ x y, shp (w + o) x y = .inl (ty, n, .inl x)) : WP k d pc ls (.int j :: .ref (w + o) :: st) (hW u L xs X Z w V) Q ↔ inB j n = true ∧ WP k d (pc + 1) ls (.int (V o j.toNatClampNeg) :: st) (hW u L xs X Z w V) Q := by
  rw [hW, x_ld hi hd (by have := wd_lt hw; omega) hs, pw_at ho]
theorem w_st {o n : Nat} {j v : Int32} {ty : FieldType} {i : Instr} (hw : isWd w) (hi : i = .iastore ∧ ty = .int ∨ i = .bastore ∧ ty = .boolean ∨ i = .castore ∧ ty = .char) (hd : decode (mCode k) pc = .ok (i, 1)) (ho : o < 24) (hs : ∀ x y, shp (w + o) x y = .inl (ty, n, .inl x)) : WP k d pc ls (.int v :: .int j :: .ref (w + o) :: st) (hW u L xs X Z w V) Q ↔ inB j n = true ∧ WP k d (pc + 1) ls st (hW u L xs X Z w (va_up V o (upd (V o) j.toNatClampNeg (vp_nar ty v)))) Q := by
  rw [hW, x_st hi hd (by have := wd_lt hw; omega) hs, pw_at ho, pw_up ho, hW]
theorem x_scr {j : Int32} (hd : decode (mCode k) pc = .ok (.iaload, 1)) : WP k d pc ls (.int j :: .ref 1000000 :: st) (hX u L xs X Z) Q ↔ inB j L = true ∧ WP k d (pc + 1) ls (.int (xs j.toNatClampNeg) :: st) (hX u L xs X Z) Q := by
  have key : sI k .iaload pc ls (.int j :: .ref 1000000 :: st) (hX u L xs X Z) = if inB j L = true then some (pc + 1, ls, .int (xs j.toNatClampNeg) :: st, hX u L xs X Z) else none := by
    show ldO .int pc ls (.int j :: .ref 1000000 :: st) (hX u L xs X Z) = _
    unfold ldO
    show (if 1000000 < (hX u L xs X Z).2.1 ∨ (1000000 = 1000000 ∧ FieldType.int = .int) then (ldI ((hX u L xs X Z).2.2 1000000) .int j).map _ else _) = _
    rw [if_pos (Or.inr ⟨rfl, rfl⟩)]
    show (ldI (.inl (.int, L, .inl xs)) .int j).map _ = _
    unfold ldI
    by_cases e : inB j L = true
    · simp [e]
    · simp [e]
  exact WP_if (y := (pc + 1, ls, _, _)) hd rfl rfl rfl rfl (fun q => key.trans (if_pos q)) (fun q => key.trans (if_neg q))
theorem x_byt {j : Int32} {a : Nat} (hd : decode (mCode k) pc = .ok (.baload, 1)) (h1 : 1000011 ≤ a) (h2 : a < 1000013) (hi : inB j (lenS (a - 1000011)) = true) : WP k d pc ls (.int j :: .ref a :: st) (hX u L xs X Z) Q ↔ WP k d (pc + 1) ls (.int ((bytS (a - 1000011)).getD j.toNatClampNeg 0) :: st) (hX u L xs X Z) Q := by
  refine WP_to (y := (pc + 1, ls, .int ((bytS (a - 1000011)).getD j.toNatClampNeg 0) :: st, hX u L xs X Z)) hd rfl rfl rfl rfl ?_
  show ldO .boolean pc ls (.int j :: .ref a :: st) (hX u L xs X Z) = _
  unfold ldO
  show (if a < (hX u L xs X Z).2.1 ∨ (a = 1000000 ∧ FieldType.boolean = .int) then _ else if FieldType.boolean = .boolean ∧ 1000011 ≤ a ∧ a < 1000013 ∧ inB j (lenS (a - 1000011)) = true then _ else none) = _
  rw [if_neg, if_pos ⟨rfl, h1, h2, hi⟩]
  rintro (q | q)
  · have q' : a < 131 := q
    omega
  · exact absurd q.2 (by decide)
theorem x_acp {idx a a0 n : Nat} {nn : Int32} {ty : FieldType} (hty : ty = .int ∨ ty = .boolean) (hd : decode (mCode k) pc = .ok (.invokestatic idx, 3)) (hc : cal (mC k) idx = none) (hw : wrapOf k (.invokestatic idx) = none) (hacp : acpC (mC k) idx = true) (ha : a < 131) (ha0 : a0 < 131) (hs0 : ∀ x y, shp a0 x y = .inl (ty, n, .inl x)) (hs : ∀ x y, shp a x y = .inl (ty, n, .inl x)) (hn : nn.toNatClampNeg = n) (hfit : (List.range n).all (fun i => fits ty (.int (X a0 i))) = true) (hpos : ¬ nn < 0 := by decide) : WP k d pc ls [.int nn, .int 0, .ref a, .int 0, .ref a0] (hX u L xs X Z) Q ↔ WP k d (pc + 3) ls [] (hX u L xs (va_up X a (va_cpy (X a0) (X a) 0 0 n)) Z) Q := by
  refine WP_to (y := (pc + 3, ls, [], hX u L xs (va_up X a (va_cpy (X a0) (X a) 0 0 n)) Z)) hd rfl rfl (by show (match cal (mC k) idx with | some (kd, k') => _ | none => none) = none; rw [hc]) hw ?_
  show (if acpC (mC k) idx = true then _ else _) = _
  rw [if_pos hacp]
  show (if a < (hX u L xs X Z).2.1 ∧ a0 < (hX u L xs X Z).2.1 ∧ catS [] ≤ 8 then (cpA ((hX u L xs X Z).2.2 a0) ((hX u L xs X Z).2.2 a) 0 0 nn).map _ else none) = _
  rw [if_pos ⟨show a < (hX u L xs X Z).2.1 from ha, show a0 < (hX u L xs X Z).2.1 from ha0, by decide⟩, hX_at ha, hX_at ha0, hs, hs0]
  have h0 : (0 : Int32).toNatClampNeg = 0 := by decide
  have e : cpA (.inl (ty, n, .inl (X a0))) (.inl (ty, n, .inl (X a))) 0 0 nn = some (.inl (ty, n, .inl (va_cpy (X a0) (X a) 0 0 n))) := by
    unfold cpA
    simp only
    rw [if_pos ⟨hty, trivial, by decide, by decide, hpos, by rw [hn, h0]; omega, by rw [hn, h0]; omega, by rw [hn, h0]; simpa using hfit⟩, hn, h0]
  rw [e, Option.map_some, ← hs (va_cpy (X a0) (X a) 0 0 n) (Z a), hX_set ha]
end
end
