/-! Integer.bitCount of small numbers -/
def b32_0 (x : Int32) : Int32 := x - (((x.toUInt32 >>> ((iz 1).toUInt32 &&& Int32.toUInt32 31)).toInt32) &&& (1431655765 : Int32))
def b32_1 (x : Int32) : Int32 := (x &&& (858993459 : Int32)) + (((x.toUInt32 >>> ((iz 2).toUInt32 &&& Int32.toUInt32 31)).toInt32) &&& (858993459 : Int32))
def b32_2 (x : Int32) : Int32 := (x + ((x.toUInt32 >>> ((iz 4).toUInt32 &&& Int32.toUInt32 31)).toInt32)) &&& (252645135 : Int32)
def b32_3 (x : Int32) : Int32 := x + ((x.toUInt32 >>> ((iz 8).toUInt32 &&& Int32.toUInt32 31)).toInt32)
def b32_4 (x : Int32) : Int32 := x + ((x.toUInt32 >>> ((iz 16).toUInt32 &&& Int32.toUInt32 31)).toInt32)
def b32_5 (x : Int32) : Int32 := x &&& (iz 63)
def bc32 (x : Int32) : Int32 := b32_5 (b32_4 (b32_3 (b32_2 (b32_1 (b32_0 x)))))
theorem bc_ok0 : ∀ a : Nat, a < 64 → ∀ b : Nat, b < 64 → bc32 (iz ((64 * a + b : Nat) : Int)) = iz (pop (wbt (64 * a + b))) := by decide +kernel
theorem bc_ok {w : Nat} (h : w < 4096) : bc32 (iz (w : Int)) = iz (pop (wbt w)) := by
  have := bc_ok0 (w / 64) (by omega) (w % 64) (by omega)
  rw [show 64 * (w / 64) + w % 64 = w from by omega] at this
  exact this
theorem or_ok0 : ∀ i : Nat, i < 12 → ∀ a : Nat, a < 64 → ∀ b : Nat, b < 64 → 64 * a + b < 2 ^ i → (iz ((64 * a + b : Nat) : Int) ||| (iz 1 <<< (iz (i : Int) &&& 31))) = iz ((64 * a + b + 2 ^ i : Nat) : Int) := by decide +kernel
theorem p12 {i : Nat} (h : i ≤ 12) : 2 ^ i ≤ 4096 := Nat.le_trans (Nat.pow_le_pow_right (by decide) h) (by decide)
theorem or_ok {w : Nat} {i : Int} (hi : 0 ≤ i ∧ i < 12) (h : w < 2 ^ i.toNat) : (iz (w : Int) ||| (iz 1 <<< (iz i &&& 31))) = iz ((w + 2 ^ i.toNat : Nat) : Int) := by
  have hw : w < 4096 := Nat.lt_of_lt_of_le h (p12 (by omega))
  have e1 : 64 * (w / 64) + w % 64 = w := by omega
  have := or_ok0 i.toNat (by omega) (w / 64) (by omega) (w % 64) (by omega) (by rw [e1]; exact h)
  rw [e1, show ((i.toNat : Nat) : Int) = i from by omega] at this
  exact this
