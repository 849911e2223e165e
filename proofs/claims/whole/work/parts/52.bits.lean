
def bz (b : Bool) : Int := if b then 1 else 0
theorem sh_ok0 : ∀ i : Nat, i < 12 → ∀ a : Nat, a < 64 → ∀ b : Nat, b < 64 → ((iz ((64 * a + b : Nat) : Int) >>> (iz (i : Int) &&& 31)) &&& iz 1) = iz (bz (wbt (64 * a + b) (i : Int))) := by decide +kernel
theorem sh_ok {w : Nat} {i : Int} (hi : 0 ≤ i ∧ i < 12) (hw : w < 4096) : ((iz (w : Int) >>> (iz i &&& 31)) &&& iz 1) = iz (bz (wbt w i)) := by
  have e1 : 64 * (w / 64) + w % 64 = w := by omega
  have := sh_ok0 i.toNat (by omega) (w / 64) (by omega) (w % 64) (by omega)
  rw [e1, show ((i.toNat : Nat) : Int) = i from by omega] at this
  exact this
theorem bz_01 (b : Bool) : 0 ≤ bz b ∧ bz b ≤ 1 := by
  cases b <;> decide
theorem bz_t {b : Bool} (h : bz b ≠ 0) : b = true := by
  cases b
  · exact absurd rfl h
  · rfl
theorem bz_f {b : Bool} (h : bz b = 0) : b = false := by
  cases b
  · rfl
  · exact absurd h (by decide)
