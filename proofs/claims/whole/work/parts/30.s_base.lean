/-! WHAT THE SPECIFICATIONS OF THE METHODS ARE WRITTEN WITH -/
theorem nle {x y : Int32} : (x ≤ y) = ¬ (y < x) := by
  rw [eq_iff_iff, Int32.not_lt]
def b2i (b : Bool) : Int32 := if b then 1 else 0
theorem b2i_t : b2i true = 1 := rfl
theorem b2i_f : b2i false = 0 := rfl
theorem b2i_z (b : Bool) : (b2i b = 0) = (b = false) := by cases b <;> decide
theorem b2i_n (b : Bool) : (b2i b &&& 1 = b2i b) = True := by cases b <;> decide
theorem zb0 : ((0 : Int32) &&& 1 = 0) = True := by decide
theorem zb1 : ((1 : Int32) &&& 1 = 1) = True := by decide
theorem ne_thr {v : Int32} : ([Value.int v] ≠ [thr]) = True := by simp [thr]
theorem ne_thr0 : (([] : List Value) ≠ [thr]) = True := by simp
theorem app0 {r : List Value} : [] ++ r = r := rfl
theorem app1 {v : Value} {r : List Value} : [v] ++ r = v :: r := rfl
/-- a count as an int -/
def ic (n : Nat) : Int32 := Int32.ofNat n
theorem ic_toInt {n : Nat} (h : n < 2147483648) : (ic n).toInt = n := by
  unfold ic
  rw [Int32.toInt_ofNat_of_lt (by omega)]
theorem ic_clamp {n : Nat} (h : n < 2147483648) : (ic n).toNatClampNeg = n := by
  have := ic_toInt h
  unfold Int32.toNatClampNeg
  rw [this]
  rfl
theorem ic_add1 (n : Nat) : ic n + 1 = ic (n + 1) := by
  unfold ic
  rw [Int32.ofNat_add]
  rfl
theorem ic_lt {n m : Nat} (h : n < 2147483648) (g : m < 2147483648) : (ic n < ic m) = (n < m) := by
  rw [eq_iff_iff, Int32.lt_iff_toInt_lt, ic_toInt h, ic_toInt g]
  omega
theorem ic_le {n m : Nat} (h : n < 2147483648) (g : m < 2147483648) : (ic n ≤ ic m) = (n ≤ m) := by
  rw [eq_iff_iff, Int32.le_iff_toInt_le, ic_toInt h, ic_toInt g]
  omega
theorem ic_eq {n m : Nat} (h : n < 2147483648) (g : m < 2147483648) : (ic n = ic m) = (n = m) := by
  rw [eq_iff_iff, ← Int32.toInt_inj, ic_toInt h, ic_toInt g]
  omega
theorem ic_neg {n : Nat} (h : n < 2147483648) : (ic n < 0) = False := by
  have := ic_lt h (show 0 < 2147483648 by omega)
  rw [show (0 : Int32) = ic 0 from rfl, this]
  simp
theorem inB_ic {n N : Nat} (h : n < 2147483648) : (inB (ic n) N = true) = (n < N) := by
  simp [inB, ic_neg h, ic_clamp h]
theorem ic_z : (0 : Int32) = ic 0 := rfl
theorem ic_of {v : Int32} (h : ¬ v < 0) : v = ic v.toNatClampNeg ∧ v.toNatClampNeg < 2147483648 := by
  rw [Int32.lt_iff_toInt_lt] at h
  have e : (0 : Int32).toInt = 0 := rfl
  have := v.toInt_lt
  have k : v.toNatClampNeg = v.toInt.toNat := rfl
  refine ⟨?_, by omega⟩
  rw [← Int32.toInt_inj, ic_toInt (by omega), k]
  omega
theorem inB_iff {v : Int32} {N : Nat} : inB v N = true ↔ ∃ n, v = ic n ∧ n < N ∧ n < 2147483648 := by
  constructor
  · intro h
    have h1 : ¬ v < 0 := by
      intro q
      simp [inB, q] at h
    have h2 := ic_of h1
    refine ⟨_, h2.1, ?_, h2.2⟩
    simp [inB, h1] at h
    omega
  · rintro ⟨n, e, h, g⟩
    rw [e, inB_ic g]
    exact h
/-- the steps k, k + 1, ..., d of them -/
def itr {α : Type} (f : Nat → α → α) : Nat → Nat → α → α
  | _, 0, a => a
  | k, d + 1, a => itr f (k + 1) d (f k a)
def exB (P : Nat → Bool) : Nat → Nat → Bool
  | _, 0 => false
  | k, d + 1 => P k || exB P (k + 1) d
theorem exB_congr {P Q : Nat → Bool} : ∀ {d k : Nat}, (∀ j, k ≤ j → j < k + d → P j = Q j) → exB P k d = exB Q k d := by
  intro d
  induction d with
  | zero => intro k _; rfl
  | succ d ih =>
    intro k h
    unfold exB
    rw [h k (Nat.le_refl k) (by omega), ih (fun j a b => h j (by omega) (by omega))]
theorem itr_congr {α : Type} {f g : Nat → α → α} : ∀ {d k : Nat} {a : α}, (∀ j b, k ≤ j → j < k + d → f j b = g j b) → itr f k d a = itr g k d a := by
  intro d
  induction d with
  | zero => intro k a _; rfl
  | succ d ih =>
    intro k a h
    unfold itr
    rw [h k a (Nat.le_refl k) (by omega), ih (fun j b p q => h j b (by omega) (by omega))]
def sv (V : Nat → Nat → Int32) (a i : Nat) (v : Int32) : Nat → Nat → Int32 := va_up V a (upd (V a) i v)
section
variable {V : Nat → Nat → Int32} {a b i j : Nat} {v : Int32}
theorem sv_d : va_up V a (upd (V a) i v) = sv V a i v := rfl
theorem sv_a (h : b ≠ a) : sv V a i v b = V b := by simp [sv, va_up, h]
theorem sv_i (h : j ≠ i) : sv V a i v a j = V a j := by simp [sv, va_up, upd, h]
theorem sv_s : sv V a i v a i = v := by simp [sv, va_up, upd]
theorem sv_at : sv V a i v b j = if b = a ∧ j = i then v else V b j := by
  by_cases h : b = a
  · subst h
    by_cases g : j = i
    · subst g; simp [sv_s]
    · simp [sv_i g, g]
  · simp [sv_a h, h]
end
