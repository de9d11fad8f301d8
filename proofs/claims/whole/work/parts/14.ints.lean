/-! numbers as Int: iI, lI -/
def iI (z : Int) : Int32 := Int32.ofInt z
def lI (z : Int) : Int64 := Int64.ofInt z
def r32 (z : Int) : Prop := -2147483648 ≤ z ∧ z < 2147483648
def r64 (z : Int) : Prop := -9223372036854775808 ≤ z ∧ z < 9223372036854775808
theorem iI_nI (n : Nat) : iI (n : Int) = nI n := rfl
theorem iI_toInt {z : Int} (h : r32 z) : (iI z).toInt = z := by
  unfold iI r32 at *
  rw [Int32.toInt_ofInt]
  exact Int.bmod_eq_of_le (by show -((4294967296 : Nat) : Int) / 2 ≤ z; omega) (by show z < ((4294967296 : Nat) + 1 : Int) / 2; omega)
theorem iI_of (x : Int32) : x = iI x.toInt := (Int32.ofInt_toInt x).symm
theorem iI_r (x : Int32) : r32 x.toInt := ⟨Int32.le_toInt x, Int32.toInt_lt x⟩
theorem iI_add (a b : Int) : iI a + iI b = iI (a + b) := (Int32.ofInt_add a b).symm
theorem iI_sub (a b : Int) : iI a - iI b = iI (a - b) := (Int32.ofInt_sub a b).symm
theorem iI_mul (a b : Int) : iI a * iI b = iI (a * b) := (Int32.ofInt_mul a b).symm
theorem iI_neg (a : Int) : -iI a = iI (-a) := (Int32.ofInt_neg a).symm
theorem iI_eq {a b : Int} (ha : r32 a) (hb : r32 b) : iI a = iI b ↔ a = b := ⟨fun h => by have := congrArg Int32.toInt h; rwa [iI_toInt ha, iI_toInt hb] at this, fun h => by rw [h]⟩
theorem iI_le {a b : Int} (ha : r32 a) (hb : r32 b) : iI a ≤ iI b ↔ a ≤ b := by rw [Int32.le_iff_toInt_le, iI_toInt ha, iI_toInt hb]
theorem iI_lt {a b : Int} (ha : r32 a) (hb : r32 b) : iI a < iI b ↔ a < b := by rw [Int32.lt_iff_toInt_lt, iI_toInt ha, iI_toInt hb]
theorem iI_0 : (0 : Int32) = iI 0 := rfl
theorem lI_toInt {z : Int} (h : r64 z) : (lI z).toInt = z := by
  unfold lI r64 at *
  rw [Int64.toInt_ofInt]
  exact Int.bmod_eq_of_le (by show -((18446744073709551616 : Nat) : Int) / 2 ≤ z; omega) (by show z < ((18446744073709551616 : Nat) + 1 : Int) / 2; omega)
theorem lI_of (x : Int64) : x = lI x.toInt := (Int64.ofInt_toInt x).symm
theorem lI_r (x : Int64) : r64 x.toInt := ⟨Int64.le_toInt x, Int64.toInt_lt x⟩
theorem lI_add (a b : Int) : lI a + lI b = lI (a + b) := (Int64.ofInt_add a b).symm
theorem lI_sub (a b : Int) : lI a - lI b = lI (a - b) := (Int64.ofInt_sub a b).symm
theorem lI_mul (a b : Int) : lI a * lI b = lI (a * b) := (Int64.ofInt_mul a b).symm
theorem lI_eq {a b : Int} (ha : r64 a) (hb : r64 b) : lI a = lI b ↔ a = b := ⟨fun h => by have := congrArg Int64.toInt h; rwa [lI_toInt ha, lI_toInt hb] at this, fun h => by rw [h]⟩
theorem lI_lt {a b : Int} (ha : r64 a) (hb : r64 b) : lI a < lI b ↔ a < b := by rw [Int64.lt_iff_toInt_lt, lI_toInt ha, lI_toInt hb]
theorem iI_l {z : Int} (h : r32 z) : (iI z).toInt64 = lI z := by
  unfold r32 at h
  have : (iI z).toInt64.toInt = z := by rw [Int32.toInt_toInt64, iI_toInt h]
  have h2 := lI_of (iI z).toInt64
  rw [this] at h2
  exact h2
theorem lI_i (z : Int) : (lI z).toInt32 = iI z := by
  unfold lI iI
  rw [Int64.toInt32_ofInt]
theorem iI_div {a b : Int} (ha : 0 ≤ a) (ha2 : a < 2147483648) (hb : 0 < b) (hb2 : b < 2147483648) : iI a / iI b = iI (a / b) := by
  obtain ⟨x, rfl⟩ := Int.eq_ofNat_of_zero_le ha
  obtain ⟨y, rfl⟩ := Int.eq_ofNat_of_zero_le (Int.le_of_lt hb)
  rw [iI_nI, iI_nI, pk_div (by omega) (by omega) (by omega)]
  rfl
theorem iI_rem {a b : Int} (ha : 0 ≤ a) (ha2 : a < 2147483648) (hb : 0 < b) (hb2 : b < 2147483648) : iI a - iI a / iI b * iI b = iI (a % b) := by
  rw [iI_div ha ha2 hb hb2, iI_mul, iI_sub, Int.mul_comm, ← Int.emod_def]
-- rows of Int
def up (f : Int → Int) (k x : Int) : Int → Int := fun j => if j = k then x else f j
theorem up_s {f : Int → Int} {k x : Int} : up f k x k = x := if_pos rfl
theorem up_n {f : Int → Int} {k x j : Int} (h : j ≠ k) : up f k x j = f j := if_neg h
abbrev aI (N : Nat) (f : Int → Int) : Cel := ai N (fun j : Nat => iI (f (j : Int)))
abbrev aL (N : Nat) (f : Int → Int) : Cel := al N (fun j : Nat => lI (f (j : Int)))
theorem upd_up (f : Int → Int) (k x : Int) (h : 0 ≤ k) : upd (fun j : Nat => iI (f (j : Int))) k.toNat (iI x) = fun j : Nat => iI (up f k x (j : Int)) := by
  funext j
  unfold upd up
  by_cases hj : j = k.toNat
  · subst hj
    rw [if_pos rfl, if_pos (Int.toNat_of_nonneg h)]
  · rw [if_neg hj, if_neg (by omega)]
theorem updL_up (f : Int → Int) (k x : Int) (h : 0 ≤ k) : vp_updL (fun j : Nat => lI (f (j : Int))) k.toNat (lI x) = fun j : Nat => lI (up f k x (j : Int)) := by
  funext j
  unfold vp_updL up
  by_cases hj : j = k.toNat
  · subst hj
    rw [if_pos rfl, if_pos (Int.toNat_of_nonneg h)]
  · rw [if_neg hj, if_neg (by omega)]
abbrev aR (t : Nat) (N : Nat) (f : Int → Nat) : Cel := ar t N (fun j : Nat => some (f (j : Int)))
def upR (f : Int → Nat) (k : Int) (x : Nat) : Int → Nat := fun j => if j = k then x else f j
theorem upR_s {f : Int → Nat} {k : Int} {x : Nat} : upR f k x k = x := if_pos rfl
theorem upR_n {f : Int → Nat} {k j : Int} {x : Nat} (h : j ≠ k) : upR f k x j = f j := if_neg h
theorem upR_up (f : Int → Nat) (k : Int) (x : Nat) (h : 0 ≤ k) : va_up (fun j : Nat => some (f (j : Int))) k.toNat (some x) = fun j : Nat => some (upR f k x (j : Int)) := by
  funext j
  unfold va_up upR
  by_cases hj : j = k.toNat
  · subst hj
    rw [if_pos rfl, if_pos (Int.toNat_of_nonneg h)]
  · rw [if_neg hj, if_neg (by omega)]
theorem iI_toN {z : Int} (h : 0 ≤ z) : iI z = nI z.toNat := by
  rw [← iI_nI, Int.toNat_of_nonneg h]
