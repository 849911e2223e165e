/-! numbers: an int by its integer, a long by its integer, a truth -/
def iz (z : Int) : Int32 := Int32.ofInt z
def lz (z : Int) : Int64 := Int64.ofInt z
def zb (b : Bool) : Int32 := if b then 1 else 0
abbrev R31 (z : Int) : Prop := -2147483648 ≤ z ∧ z < 2147483648
abbrev R63 (z : Int) : Prop := -9223372036854775808 ≤ z ∧ z < 9223372036854775808
theorem iz_toInt {z : Int} (h : R31 z) : (iz z).toInt = z := by
  unfold iz
  rw [Int32.toInt_ofInt]
  show z.bmod (2 ^ 32) = z
  exact Int.bmod_eq_of_le (by omega) (by omega)
theorem lz_toInt {z : Int} (h : R63 z) : (lz z).toInt = z := by
  unfold lz
  rw [Int64.toInt_ofInt]
  show z.bmod (2 ^ 64) = z
  exact Int.bmod_eq_of_le (by omega) (by omega)
theorem iz_of (x : Int32) : iz x.toInt = x := Int32.ofInt_toInt x
theorem lz_of (x : Int64) : lz x.toInt = x := Int64.ofInt_toInt x
theorem iz_rng (x : Int32) : R31 x.toInt := by
  have h1 := Int32.le_toInt x
  have h2 := Int32.toInt_lt x
  omega
theorem lz_rng (x : Int64) : R63 x.toInt := by
  have h1 := Int64.le_toInt x
  have h2 := Int64.toInt_lt x
  omega
theorem iz_add (a b : Int) : iz a + iz b = iz (a + b) := (Int32.ofInt_add a b).symm
theorem iz_sub (a b : Int) : iz a - iz b = iz (a - b) := (Int32.ofInt_sub a b).symm
theorem iz_mul (a b : Int) : iz a * iz b = iz (a * b) := (Int32.ofInt_mul a b).symm
theorem iz_neg (a : Int) : -iz a = iz (-a) := (Int32.ofInt_neg a).symm
theorem lz_add (a b : Int) : lz a + lz b = lz (a + b) := (Int64.ofInt_add a b).symm
theorem lz_sub (a b : Int) : lz a - lz b = lz (a - b) := (Int64.ofInt_sub a b).symm
theorem lz_mul (a b : Int) : lz a * lz b = lz (a * b) := (Int64.ofInt_mul a b).symm
theorem iz_lt {a b : Int} (ha : R31 a) (hb : R31 b) : iz a < iz b ↔ a < b := by rw [Int32.lt_iff_toInt_lt, iz_toInt ha, iz_toInt hb]
theorem iz_le {a b : Int} (ha : R31 a) (hb : R31 b) : iz a ≤ iz b ↔ a ≤ b := by rw [Int32.le_iff_toInt_le, iz_toInt ha, iz_toInt hb]
theorem iz_eq {a b : Int} (ha : R31 a) (hb : R31 b) : iz a = iz b ↔ a = b := by rw [← Int32.toInt_inj, iz_toInt ha, iz_toInt hb]
theorem lz_lt {a b : Int} (ha : R63 a) (hb : R63 b) : lz a < lz b ↔ a < b := by rw [Int64.lt_iff_toInt_lt, lz_toInt ha, lz_toInt hb]
theorem lz_le {a b : Int} (ha : R63 a) (hb : R63 b) : lz a ≤ lz b ↔ a ≤ b := by rw [Int64.le_iff_toInt_le, lz_toInt ha, lz_toInt hb]
theorem lz_eq {a b : Int} (ha : R63 a) (hb : R63 b) : lz a = lz b ↔ a = b := by rw [← Int64.toInt_inj, lz_toInt ha, lz_toInt hb]
theorem iz_div {a b : Int} (h0 : 0 ≤ a) (ha : a < 2147483648) (h1 : 0 < b) (hb : b < 2147483648) : iz a / iz b = iz (a / b) := by
  apply Int32.toInt_inj.mp
  have e1 : (iz a).toInt = a := iz_toInt ⟨by omega, ha⟩
  have e2 : (iz b).toInt = b := iz_toInt ⟨by omega, hb⟩
  have h3 : a / b ≤ a := Int.ediv_le_self b h0
  have h4 : 0 ≤ a / b := Int.ediv_nonneg h0 (by omega)
  rw [lg_idiv_nonneg (by rw [e1]; omega) (by rw [e2]; omega), e1, e2, iz_toInt ⟨by omega, by omega⟩]
theorem iz_rem {a b : Int} (h0 : 0 ≤ a) (ha : a < 2147483648) (h1 : 0 < b) (hb : b < 2147483648) : iz a - iz a / iz b * iz b = iz (a % b) := by
  rw [iz_div h0 ha h1 hb, iz_mul, iz_sub]
  exact congrArg iz (by have := Int.ediv_mul_add_emod a b; omega)
theorem iz_wide {z : Int} (h : R31 z) : (iz z).toInt64 = lz z := by
  apply Int64.toInt_inj.mp
  rw [Int32.toInt_toInt64, iz_toInt h, lz_toInt ⟨by omega, by omega⟩]
theorem iz_in {z : Int} {n : Nat} (h : 0 ≤ z ∧ z < n) (hn : n < 2147483648) : vp_in (iz z) n := by
  rw [vp_in_iff, iz_toInt ⟨by omega, by omega⟩]
  exact h
theorem iz_cl {z : Int} (h : 0 ≤ z ∧ z < 2147483648) : (iz z).toNatClampNeg = z.toNat := by
  show (iz z).toInt.toNat = z.toNat
  rw [iz_toInt ⟨by omega, by omega⟩]
theorem zb_0 : zb false = 0 := rfl
theorem zb_1 : zb true = 1 := rfl
theorem zb_eq0 {b : Bool} : zb b = 0 ↔ b = false := by cases b <;> decide
theorem zb_nar (b : Bool) : narrow .boolean (.int (zb b)) = .int (zb b) := by cases b <;> rfl
theorem zb_fit (b : Bool) : fits .boolean (.int (zb b)) = true := by cases b <;> rfl
theorem zb_vp (b : Bool) : vp_nar .boolean (zb b) = zb b := by cases b <;> rfl
theorem zb_iz (b : Bool) : zb b = iz (if b then 1 else 0) := by cases b <;> rfl
theorem zb_inj {a b : Bool} (h : zb a = zb b) : a = b := by
  revert h
  cases a <;> cases b <;> decide
/-! rows of numbers, by functions of an integer: of integers, of ints as they are, of longs, of truths, of references -/
def us {α : Type} (g : Int → α) (z : Int) (v : α) : Int → α := fun j => if j = z then v else g j
theorem us_at {α : Type} {g : Int → α} {z : Int} {v : α} : us g z v z = v := if_pos rfl
theorem us_ne {α : Type} {g : Int → α} {z j : Int} {v : α} (h : j ≠ z) : us g z v j = g j := if_neg h
def av (g : Int → Int) : Nat → Int32 := fun k => iz (g k)
def rv {α : Type} (g : Int → α) : Nat → α := fun k => g k
def bv (g : Int → Bool) : Nat → Int32 := fun k => zb (g k)
theorem av_at {g : Int → Int} {z : Int} (h : 0 ≤ z) : av g z.toNat = iz (g z) := by
  show iz (g (z.toNat : Int)) = _
  rw [Int.toNat_of_nonneg h]
theorem rv_at {α : Type} {g : Int → α} {z : Int} (h : 0 ≤ z) : rv g z.toNat = g z := by
  show g (z.toNat : Int) = _
  rw [Int.toNat_of_nonneg h]
theorem bv_at {g : Int → Bool} {z : Int} (h : 0 ≤ z) : bv g z.toNat = zb (g z) := by
  show zb (g (z.toNat : Int)) = _
  rw [Int.toNat_of_nonneg h]
theorem nat_at {k : Nat} {z : Int} (h : 0 ≤ z) : k = z.toNat ↔ (k : Int) = z := by omega
theorem av_us {g : Int → Int} {z v : Int} (h : 0 ≤ z) : upd (av g) z.toNat (iz v) = av (us g z v) := by
  funext k
  unfold upd av us
  by_cases e : k = z.toNat
  · rw [if_pos e, if_pos ((nat_at h).mp e)]
  · rw [if_neg e, if_neg (fun q => e ((nat_at h).mpr q))]
theorem rv_us {g : Int → Int32} {z : Int} {v : Int32} (h : 0 ≤ z) : upd (rv g) z.toNat v = rv (us g z v) := by
  funext k
  unfold upd rv us
  by_cases e : k = z.toNat
  · rw [if_pos e, if_pos ((nat_at h).mp e)]
  · rw [if_neg e, if_neg (fun q => e ((nat_at h).mpr q))]
theorem rv_usL {g : Int → Int64} {z : Int} {v : Int64} (h : 0 ≤ z) : vp_updL (rv g) z.toNat v = rv (us g z v) := by
  funext k
  unfold vp_updL rv us
  by_cases e : k = z.toNat
  · rw [if_pos e, if_pos ((nat_at h).mp e)]
  · rw [if_neg e, if_neg (fun q => e ((nat_at h).mpr q))]
theorem rv_usQ {g : Int → Option Nat} {z : Int} {v : Option Nat} (h : 0 ≤ z) : va_up (rv g) z.toNat v = rv (us g z v) := by
  funext k
  unfold va_up rv us
  by_cases e : k = z.toNat
  · rw [if_pos e, if_pos ((nat_at h).mp e)]
  · rw [if_neg e, if_neg (fun q => e ((nat_at h).mpr q))]
theorem bv_us {g : Int → Bool} {z : Int} {v : Bool} (h : 0 ≤ z) : upd (bv g) z.toNat (vp_nar .boolean (zb v)) = bv (us g z v) := by
  rw [zb_vp]
  funext k
  unfold upd bv us
  by_cases e : k = z.toNat
  · rw [if_pos e, if_pos ((nat_at h).mp e)]
  · rw [if_neg e, if_neg (fun q => e ((nat_at h).mpr q))]
