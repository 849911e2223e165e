/-! the sweep over all starts -/
def iabs (z : Int) : Int := if z < 0 then -z else z
/-- v is how far d is from the nearest of g's first n -/
def isD (g : Int → Int) (n d v : Int) : Prop := (∃ k : Int, 0 ≤ k ∧ k < n ∧ iabs (d - g k) = v) ∧ ∀ k : Int, 0 ≤ k → k < n → v ≤ iabs (d - g k)
def sF (f : Nat → Int) : Nat → Int
  | 0 => 0
  | n + 1 => sF f n + f n
theorem sF_cong {f g : Nat → Int} : ∀ {n : Nat}, (∀ k, k < n → f k = g k) → sF f n = sF g n
  | 0, _ => rfl
  | n + 1, h => by
    unfold sF
    rw [sF_cong (fun k hk => h k (by omega)), h n (by omega)]
theorem sF_zero {f : Nat → Int} : ∀ {n : Nat}, (∀ k, k < n → f k = 0) → sF f n = 0
  | 0, _ => rfl
  | n + 1, h => by
    unfold sF
    rw [sF_zero (fun k hk => h k (by omega)), h n (by omega)]
    rfl
theorem sF_upd {f g : Nat → Int} {q : Nat} : ∀ {n : Nat}, q < n → (∀ k, k < n → k ≠ q → g k = f k) → sF g n = sF f n + (g q - f q)
  | 0, h, _ => by omega
  | n + 1, h, e => by
    unfold sF
    by_cases hq : q = n
    · subst hq
      rw [sF_cong (fun k hk => e k (by omega) (by omega))]
      omega
    · rw [sF_upd (n := n) (by omega) (fun k hk hk2 => e k (by omega) hk2), e n (by omega) (fun z => hq z.symm)]
      omega
theorem sF_add {f g : Nat → Int} : ∀ n : Nat, sF (fun k => f k + g k) n = sF f n + sF g n
  | 0 => rfl
  | n + 1 => by
    have h := sF_add (f := f) (g := g) n
    show sF (fun k => f k + g k) n + (f n + g n) = (sF f n + f n) + (sF g n + g n)
    omega
theorem sF_mul {f : Nat → Int} {c : Int} : ∀ n : Nat, sF (fun k => f k * c) n = sF f n * c
  | 0 => by simp [sF]
  | n + 1 => by
    have h := sF_mul (f := f) (c := c) n
    show sF (fun k => f k * c) n + f n * c = (sF f n + f n) * c
    rw [h, Int.add_mul]
theorem sF_bd {f : Nat → Int} {B : Int} : ∀ {n : Nat}, (∀ k, k < n → -B ≤ f k ∧ f k ≤ B) → -(n * B) ≤ sF f n ∧ sF f n ≤ n * B
  | 0, _ => by simp [sF]
  | n + 1, h => by
    have h1 := sF_bd (n := n) (fun k hk => h k (by omega))
    have h2 := h n (by omega)
    have e : ((n + 1 : Nat) : Int) * B = n * B + B := by rw [Int.natCast_add, Int.add_mul]; simp
    rw [e]
    unfold sF
    omega
theorem sF_le {f g : Nat → Int} : ∀ {n : Nat}, (∀ k, k < n → f k ≤ g k) → sF f n ≤ sF g n
  | 0, _ => Int.le_refl _
  | n + 1, h => by
    have h1 := sF_le (n := n) (fun k hk => h k (by omega))
    have h2 := h n (by omega)
    unfold sF
    omega
theorem sF_part {f : Nat → Int} {q : Nat} : ∀ {n : Nat}, q < n → (∀ k, k < n → 0 ≤ f k) → f q ≤ sF f n
  | 0, h, _ => by omega
  | n + 1, h, e => by
    have h0 : 0 ≤ sF f n := by
      have := sF_le (f := fun _ => 0) (g := f) (n := n) (fun k hk => e k (by omega))
      rwa [sF_zero (fun _ _ => rfl)] at this
    unfold sF
    by_cases hq : q = n
    · subst hq
      omega
    · have := sF_part (n := n) (q := q) (by omega) (fun k hk => e k (by omega))
      have := e n (by omega)
      omega
/-- with how many days of the list a start agrees, and how far they are in all -/
def agF (ds : Int → Int) (nr : Int) (nd : List Int) (X : Int) : Int := sF (fun k => if ds (nd.getD k 0 + X) ≤ nr then 1 else 0) nd.length
def smF (ds : Int → Int) (nr : Int) (nd : List Int) (X : Int) : Int := sF (fun k => if ds (nd.getD k 0 + X) ≤ nr then ds (nd.getD k 0 + X) else 0) nd.length
/-- the best of all starts -/
def Opt (ds : Int → Int) (nr : Int) (nd : List Int) (ba bs : Int) : Prop := 0 < ba ∧ agF ds nr nd bs = ba ∧ ∀ X : Int, agF ds nr nd X < ba ∨ (agF ds nr nd X = ba ∧ (smF ds nr nd bs < smF ds nr nd X ∨ (smF ds nr nd bs = smF ds nr nd X ∧ bs ≤ X)))
/-- the best of all starts below R -/
def Bst (ds : Int → Int) (nr : Int) (nd : List Int) (R ba bm bs : Int) : Prop := (ba = 0 ∧ ∀ X : Int, X < R → agF ds nr nd X = 0) ∨ (0 < ba ∧ agF ds nr nd bs = ba ∧ smF ds nr nd bs = bm ∧ ∀ X : Int, X < R → agF ds nr nd X < ba ∨ (agF ds nr nd X = ba ∧ (bm < smF ds nr nd X ∨ (bm = smF ds nr nd X ∧ bs ≤ X))))
theorem iabs_cases (z : Int) : (0 ≤ z ∧ iabs z = z) ∨ (z < 0 ∧ iabs z = -z) := by
  unfold iabs
  by_cases h : z < 0
  · rw [if_pos h]; omega
  · rw [if_neg h]; omega
theorem srt_le {g : Int → Int} {n : Int} (h : srt g n) {i j : Int} (h0 : 0 ≤ i) (h1 : i ≤ j) (h2 : j < n) : g i ≤ g j := by
  rcases Int.lt_or_eq_of_le h1 with q | q
  · have := h i j h0 q h2; omega
  · rw [q]; exact Int.le_refl _
/-- between the coming near and the eclipse itself -/
theorem reg1 {g : Int → Int} {n nr d v i : Int} (hs : srt g n) (hv : isD g n d v) (hi : 0 ≤ i ∧ i < n) (h1 : tF g nr i ≤ d) (h2 : d < g i) : v = g i - d ∧ v ≤ nr := by
  obtain ⟨⟨k, k0, k1, hk⟩, hm⟩ := hv
  have hmi := hm i hi.1 hi.2
  have ci := iabs_cases (d - g i)
  have ck := iabs_cases (d - g k)
  have hf : g i - nr ≤ d ∧ (0 < i → (g (i - 1) + g i) / 2 + 1 ≤ d) := by
    unfold tF at h1
    by_cases q : 0 < i
    · rw [if_pos q] at h1
      unfold imax at h1
      split at h1 <;> exact ⟨by omega, fun _ => by omega⟩
    · rw [if_neg q] at h1
      exact ⟨by omega, fun z => absurd z q⟩
  have hge : g i - d ≤ v := by
    rcases Int.lt_or_le k i with q | q
    · have a1 := srt_le hs k0 (show k ≤ i - 1 by omega) (by omega)
      have a2 := hf.2 (by omega)
      omega
    · have a1 := srt_le hs hi.1 q k1
      omega
  omega
/-- between the eclipse and the leaving -/
theorem reg2 {g : Int → Int} {n nr d v i : Int} (hs : srt g n) (hv : isD g n d v) (hi : 0 ≤ i ∧ i < n) (h1 : g i ≤ d) (h2 : d < tL g n nr i + 1) : v = d - g i ∧ v ≤ nr := by
  obtain ⟨⟨k, k0, k1, hk⟩, hm⟩ := hv
  have hmi := hm i hi.1 hi.2
  have ci := iabs_cases (d - g i)
  have ck := iabs_cases (d - g k)
  have hf : d ≤ g i + nr ∧ (i + 1 < n → d ≤ (g i + g (i + 1)) / 2) := by
    unfold tL at h2
    by_cases q : i + 1 < n
    · rw [if_pos q] at h2
      unfold imin at h2
      split at h2 <;> exact ⟨by omega, fun _ => by omega⟩
    · rw [if_neg q] at h2
      exact ⟨by omega, fun z => absurd z q⟩
  have hge : d - g i ≤ v := by
    rcases Int.lt_or_le i k with q | q
    · have a1 := srt_le hs (show 0 ≤ i + 1 by omega) (show i + 1 ≤ k by omega) k1
      have a2 := hf.2 (by omega)
      omega
    · have a1 := srt_le hs k0 q hi.2
      omega
  omega
/-- near no eclipse: behind the one before i, ahead of i -/
theorem reg0 {g : Int → Int} {n nr d v i : Int} (hs : srt g n) (hv : isD g n d v) (hi : 0 ≤ i ∧ i ≤ n) (h1 : 0 < i → tL g n nr (i - 1) + 1 ≤ d) (h2 : i < n → d < tF g nr i) : nr < v := by
  obtain ⟨⟨k, k0, k1, hk⟩, hm⟩ := hv
  have ck := iabs_cases (d - g k)
  rcases Int.lt_or_le k i with q | q
  · -- behind
    have a1 := srt_le hs k0 (show k ≤ i - 1 by omega) (by omega)
    have a3 := h1 (by omega)
    unfold tL at a3
    by_cases w : i - 1 + 1 < n
    · rw [if_pos w, show i - 1 + 1 = i from by omega] at a3
      have a4 := h2 (by omega)
      have a5 := hm i hi.1 (by omega)
      have ci := iabs_cases (d - g i)
      unfold tF at a4
      rw [if_pos (by omega)] at a4
      have hs1 := hs (i - 1) i (by omega) (by omega) (by omega)
      unfold imin at a3
      unfold imax at a4
      split at a3 <;> split at a4 <;> omega
    · rw [if_neg w] at a3
      omega
  · -- ahead
    have a1 := srt_le hs hi.1 q k1
    have a4 := h2 (by omega)
    unfold tF at a4
    by_cases w : 0 < i
    · rw [if_pos w] at a4
      have a3 := h1 w
      have a5 := hm (i - 1) (by omega) (by omega)
      have ci := iabs_cases (d - g (i - 1))
      unfold tL at a3
      rw [if_pos (by omega), show i - 1 + 1 = i from by omega] at a3
      have hs1 := hs (i - 1) i (by omega) (by omega) (by omega)
      unfold imin at a3
      unfold imax at a4
      split at a3 <;> split at a4 <;> omega
    · rw [if_neg w] at a4
      omega
