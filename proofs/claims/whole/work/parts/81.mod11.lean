
/-! sets of wrong distances as the model numbers them: the first asked distance is the highest bit -/
def encJ (A V : Nat → Bool) : Nat → Nat
  | 0 => 0
  | j + 1 => if A j then 2 * encJ A V j + (if V j then 1 else 0) else encJ A V j
def decJ (A : Nat → Bool) (n s : Nat) (j : Int) : Bool := decide (0 ≤ j ∧ j < (n : Int)) && (A j.toNat && s.testBit (cnt A n - 1 - cnt A j.toNat))
theorem cnt_up (p : Nat → Bool) {a b : Nat} (h : a ≤ b) : cnt p a ≤ cnt p b := by
  obtain ⟨m, rfl⟩ : ∃ m, b = a + m := ⟨b - a, by omega⟩
  rw [cnt_split]
  omega
theorem cnt_s (p : Nat → Bool) (n : Nat) : cnt p (n + 1) = cnt p n + (if p n then 1 else 0) := rfl
theorem enc_lt (A V : Nat → Bool) : ∀ d : Nat, encJ A V d < 2 ^ cnt A d
  | 0 => Nat.lt_succ_self 0
  | d + 1 => by
    have h := enc_lt A V d
    rw [cnt_s]
    unfold encJ
    cases A d with
    | false => simpa using h
    | true =>
      simp only [if_true]
      rw [Nat.pow_succ]
      cases V d <;> simp <;> omega
theorem enc_cong {A V V' : Nat → Bool} : ∀ {d : Nat}, (∀ j, j < d → A j = true → V j = V' j) → encJ A V d = encJ A V' d
  | 0, _ => rfl
  | d + 1, h => by
    unfold encJ
    rw [enc_cong (fun j hj => h j (by omega))]
    cases hA : A d with
    | false => rfl
    | true => rw [h d (by omega) hA]
theorem enc_lex {A V V' : Nat → Bool} {i : Nat} (hA : A i = true) (he : ∀ j, j < i → V j = V' j) (h0 : V i = false) (h1 : V' i = true) : ∀ {d : Nat}, i < d → encJ A V d < encJ A V' d
  | 0, h => by omega
  | d + 1, h => by
    by_cases q : i = d
    · subst q
      unfold encJ
      rw [hA, h0, h1, enc_cong (V := V) (V' := V') (fun j hj _ => he j hj)]
      simp
    · have h2 := enc_lex hA he h0 h1 (d := d) (by omega)
      unfold encJ
      cases A d with
      | false => simpa using h2
      | true =>
        simp only [if_true]
        split <;> split <;> omega
theorem div_bit (x m : Nat) : x / 2 ^ m = 2 * (x / 2 ^ (m + 1)) + (if x.testBit m then 1 else 0) := by
  rw [Nat.testBit_eq_decide_div_mod_eq, Nat.pow_succ, ← Nat.div_div_eq_div_mul]
  generalize x / 2 ^ m = y
  by_cases h : y % 2 = 1
  · rw [decide_eq_true h]; simp; omega
  · rw [decide_eq_false h]; simp; omega
theorem enc_dec {A : Nat → Bool} {n s : Nat} (hs : s < 2 ^ cnt A n) : ∀ d : Nat, d ≤ n → encJ A (fun j => decJ A n s (j : Int)) d = s / 2 ^ (cnt A n - cnt A d)
  | 0, _ => by
    rw [show cnt A 0 = 0 from rfl, Nat.sub_zero, Nat.div_eq_of_lt hs]
    rfl
  | d + 1, h => by
    have ih := enc_dec hs d (by omega)
    have h1 := cnt_up A (a := d + 1) (b := n) h
    rw [cnt_s] at h1 ⊢
    unfold encJ
    cases hA : A d with
    | false => rw [ih]; simp
    | true =>
      rw [hA] at h1
      simp only [if_true] at h1 ⊢
      rw [ih]
      have e : decJ A n s (d : Int) = s.testBit (cnt A n - 1 - cnt A d) := by
        unfold decJ
        rw [decide_eq_true (by omega), Int.toNat_natCast, hA]
        simp
      rw [e, div_bit s (cnt A n - (cnt A d + 1)), show cnt A n - (cnt A d + 1) + 1 = cnt A n - cnt A d from by omega, show cnt A n - 1 - cnt A d = cnt A n - (cnt A d + 1) from by omega]
theorem enc_dec_n {A : Nat → Bool} {n s : Nat} (hs : s < 2 ^ cnt A n) : encJ A (fun j => decJ A n s (j : Int)) n = s := by
  rw [enc_dec hs n (Nat.le_refl _), Nat.sub_self]
  simp
theorem cnt_zero_tail {p : Nat → Bool} {m : Nat} (h : ∀ k, m ≤ k → p k = false) : ∀ M : Nat, m ≤ M → cnt p M = cnt p m
  | 0, hM => by
    have : m = 0 := by omega
    subst this
    rfl
  | M + 1, hM => by
    by_cases q : m = M + 1
    · rw [q]
    · rw [cnt_s, h M (by omega), cnt_zero_tail h M (by omega)]
      rfl
theorem cnt_bit (x : Nat) (b : Bool) (M : Nat) : cnt (2 * x + (if b then 1 else 0)).testBit (M + 1) = (if b then 1 else 0) + cnt x.testBit M := by
  rw [show M + 1 = 1 + M from by omega, cnt_split]
  have e0 : cnt (2 * x + (if b then 1 else 0)).testBit 1 = (if b then 1 else 0) := by
    rw [show (1 : Nat) = 0 + 1 from rfl, cnt_s]
    have : (2 * x + (if b then 1 else 0)).testBit 0 = b := by
      rw [Nat.testBit_zero]
      cases b <;> simp
    rw [this]
    show 0 + (if b then 1 else 0) = _
    exact Nat.zero_add _
  rw [e0]
  congr 1
  refine cnt_cong (fun k _ => ?_)
  rw [show 1 + k = k + 1 from by omega, Nat.testBit_succ]
  congr 1
  cases b <;> simp <;> omega
theorem enc_pop (A V : Nat → Bool) : ∀ (d M : Nat), cnt A d ≤ M → cnt (encJ A V d).testBit M = cnt (fun j => A j && V j) d
  | 0, M, _ => by
    show cnt (Nat.testBit 0) M = 0
    rw [cnt_zero_tail (m := 0) (fun k _ => Nat.zero_testBit k) M (by omega)]
    rfl
  | d + 1, M, h => by
    rw [cnt_s] at h ⊢
    unfold encJ
    cases hA : A d with
    | false =>
      simp only [Bool.false_and, if_false, Nat.add_zero, Bool.false_eq_true]
      exact enc_pop A V d M (by rw [hA] at h; simpa using h)
    | true =>
      rw [hA] at h
      simp only [if_true] at h ⊢
      obtain ⟨M', rfl⟩ : ∃ M', M = M' + 1 := ⟨M - 1, by omega⟩
      rw [cnt_bit, enc_pop A V d M' (by omega), Bool.true_and]
      omega
theorem cnt_inv {p : Nat → Bool} : ∀ {n k : Nat}, k < cnt p n → ∃ j, j < n ∧ p j = true ∧ cnt p j = k
  | 0, k, h => absurd h (Nat.not_lt_zero _)
  | n + 1, k, h => by
    rw [cnt_s] at h
    by_cases q : k < cnt p n
    · obtain ⟨j, h1, h2, h3⟩ := cnt_inv q
      exact ⟨j, by omega, h2, h3⟩
    · cases hp : p n with
      | false => rw [hp] at h; simp at h; omega
      | true => rw [hp] at h; simp at h; exact ⟨n, by omega, hp, by omega⟩
/-- two ascending rows with the same values are one -/
theorem mono_uniq1 {g h : Int → Int} {n m : Int} (hg : Mono g n) (hh : Mono h m) (e : ∀ v, Inl g n v ↔ Inl h m v) : ∀ k : Nat, (k : Int) < n → (k : Int) < m ∧ h k = g k := by
  intro k
  induction k using Nat.strongRecOn with
  | _ k ih =>
    intro hk
    obtain ⟨t, t0, t1, t2⟩ := (e (g k)).mp ⟨k, by omega, hk, rfl⟩
    have htk : (k : Int) ≤ t := by
      rcases Int.lt_or_le t k with q | q
      · have h1 := ih t.toNat (by omega) (by omega)
        rw [Int.toNat_of_nonneg t0] at h1
        have h2 := hg t k t0 q hk
        omega
      · exact q
    have hkm : (k : Int) < m := by omega
    refine ⟨hkm, ?_⟩
    obtain ⟨u, u0, u1, u2⟩ := (e (h k)).mpr ⟨k, by omega, hkm, rfl⟩
    have hle : h k ≤ h t := by
      rcases (show (k : Int) < t ∨ (k : Int) = t by omega) with q | q
      · have := hh k t (by omega) q t1; omega
      · rw [← q]; exact Int.le_refl _
    rcases (show u < k ∨ u = k ∨ (k : Int) < u by omega) with q | q | q
    · have h1 := ih u.toNat (by omega) (by omega)
      rw [Int.toNat_of_nonneg u0] at h1
      have h2 := hh u k u0 q hkm
      omega
    · rw [← u2, q]
    · have := hg k u (by omega) q u1
      omega
theorem mono_uniq {g h : Int → Int} {n m : Int} (hn : 0 ≤ n) (hm : 0 ≤ m) (hg : Mono g n) (hh : Mono h m) (e : ∀ v, Inl g n v ↔ Inl h m v) : n = m ∧ ∀ k : Int, 0 ≤ k → k < n → g k = h k := by
  have a := mono_uniq1 hg hh e
  have b := mono_uniq1 hh hg (fun v => (e v).symm)
  have en : n = m := by
    rcases Int.lt_trichotomy n m with q | q | q
    · have := b n.toNat (by omega)
      omega
    · exact q
    · have := a m.toNat (by omega)
      omega
  refine ⟨en, fun k k0 k1 => ?_⟩
  have := (a k.toNat (by omega)).2
  rw [Int.toNat_of_nonneg k0] at this
  exact this.symm
