
theorem fl_props {f : Int → Bool} {a : Int} : ∀ n : Nat, (∀ k : Nat, k < (fl f a n).length → a ≤ (fl f a n).getD k 0 ∧ (fl f a n).getD k 0 < a + n) ∧ ∀ j k : Nat, j < k → k < (fl f a n).length → (fl f a n).getD j 0 < (fl f a n).getD k 0
  | 0 => ⟨fun k h => absurd h (Nat.not_lt_zero _), fun j k _ h => absurd h (Nat.not_lt_zero _)⟩
  | n + 1 => by
    obtain ⟨h1, h2⟩ := fl_props (f := f) (a := a) n
    unfold fl
    cases hf : f (a + n) with
    | false =>
      simp only [Bool.false_eq_true, if_false, List.append_nil]
      exact ⟨fun k hk => by have := h1 k hk; omega, h2⟩
    | true =>
      simp only [if_true]
      have hl : (fl f a n ++ [a + (n : Int)]).length = (fl f a n).length + 1 := by simp
      have ha : ∀ k, k < (fl f a n).length → (fl f a n ++ [a + (n : Int)]).getD k 0 = (fl f a n).getD k 0 := fun k hk => by simp [List.getD, List.getElem?_append_left hk]
      have hb : (fl f a n ++ [a + (n : Int)]).getD (fl f a n).length 0 = a + n := by simp [List.getD]
      rw [hl]
      refine ⟨fun k hk => ?_, fun j k hj hk => ?_⟩
      · by_cases q : k < (fl f a n).length
        · rw [ha k q]; have := h1 k q; omega
        · rw [show k = (fl f a n).length from by omega, hb]; omega
      · by_cases q : k < (fl f a n).length
        · rw [ha k q, ha j (by omega)]; exact h2 j k hj q
        · rw [show k = (fl f a n).length from by omega, hb, ha j (by omega)]; have := h1 j (by omega); omega
theorem nlF_len (f : SS) (b : Int) : (nlF f b).length ≤ 432000 := fl_le 432000
theorem nlF_props (f : SS) (b : Int) : (∀ k : Nat, k < (nlF f b).length → 1152000 ≤ (nlF f b).getD k 0 ∧ (nlF f b).getD k 0 < 1584000) ∧ ∀ j k : Nat, j < k → k < (nlF f b).length → (nlF f b).getD j 0 < (nlF f b).getD k 0 := by
  have h := fl_props (f := fitF f b) (a := 1152000) 432000
  exact ⟨fun k hk => ⟨(h.1 k hk).1, Int.lt_of_lt_of_le (h.1 k hk).2 (by decide)⟩, h.2⟩
theorem take_getD {L : List Int} {k : Nat} (h : k < (L.take 300).length) : (L.take 300).getD k 0 = L.getD k 0 := by
  rw [List.length_take] at h
  simp [List.getD, List.getElem?_take, show k < 300 from by omega]
section LIx
variable {tc sc : Int} {bs : Int → Int} {sa mb : Int → Option Nat} {so : Int → Nat} {sb mm : Int → Int} {sts : Int → Int → Int32} {Ls : Int → List Int} {fs : Int → SS} {lo hi : Int → Int64} {to dy fF tT dD js : Int → Int} {size mcn few slv : Int} {wg : Nat} {M : Nat → Int → Int}
theorem LStn_ex (h : LStn tc sc bs sa so sb mm sts Ls fs lo hi to dy) : ∀ j : Int, 0 ≤ j → j < sc → ∃ y, sa j = some y := fun j h0 h1 => ⟨_, (h.2.1 j h0 h1).1⟩
theorem LStn_sa (h : LStn tc sc bs sa so sb mm sts Ls fs lo hi to dy) : ∀ j : Int, 0 ≤ j → j < 30 → ∀ x, sa j = some x → j < sc ∧ x = so j := by
  intro j h0 _ x hx
  rcases Int.lt_or_le j sc with q | q
  · exact ⟨q, Option.some.inj (hx.symm.trans (h.2.1 j h0 q).1)⟩
  · rw [(h.2.2.1 j q).1] at hx; cases hx
theorem LStn_mm (h : LStn tc sc bs sa so sb mm sts Ls fs lo hi to dy) : ∀ j : Int, 0 ≤ mm j ∧ mm j ≤ 432000 := by
  intro j
  rcases Int.lt_or_le j 0 with q0 | q0
  · rw [(h.2.2.2 j q0).1]; omega
  · rcases Int.lt_or_le j sc with q | q
    · rw [(h.2.1 j q0 q).2.2.2.2.2.2.1]
      have := nlF_len (fs j) (sb j)
      omega
    · rw [(h.2.2.1 j q).2.1]; omega
theorem LStn_Ls (h : LStn tc sc bs sa so sb mm sts Ls fs lo hi to dy) {j : Int} (h0 : 0 ≤ j) (h1 : j < sc) : ((Ls j).length : Int) = (if mm j ≤ 300 then mm j else 300) ∧ (∀ k : Nat, k < (Ls j).length → dy (300 * j + (k : Int)) = (Ls j).getD k 0 ∧ 1152000 ≤ (Ls j).getD k 0 ∧ (Ls j).getD k 0 < 1584000) ∧ ∀ i k : Nat, i < k → k < (Ls j).length → (Ls j).getD i 0 < (Ls j).getD k 0 := by
  obtain ⟨a1, a2, a3, a4, a5, a6, a7, a8, a9⟩ := h.2.1 j h0 h1
  have hp := nlF_props (fs j) (sb j)
  have hln : (Ls j).length = min 300 (nlF (fs j) (sb j)).length := by rw [a8, List.length_take]
  refine ⟨?_, fun k hk => ?_, fun i k hi hk => ?_⟩
  · rw [a7]; split <;> omega
  · have e : (Ls j).getD k 0 = (nlF (fs j) (sb j)).getD k 0 := by rw [a8]; exact take_getD (by rw [← a8]; exact hk)
    have h3 := hp.1 k (by omega)
    rw [e]
    exact ⟨a9 k (by omega) (by omega), h3.1, h3.2⟩
  · have e1 : (Ls j).getD i 0 = (nlF (fs j) (sb j)).getD i 0 := by rw [a8]; exact take_getD (by rw [← a8]; omega)
    have e2 : (Ls j).getD k 0 = (nlF (fs j) (sb j)).getD k 0 := by rw [a8]; exact take_getD (by rw [← a8]; exact hk)
    rw [e1, e2]
    exact hp.2 i k hi (by omega)
theorem LStn_len (h : LStn tc sc bs sa so sb mm sts Ls fs lo hi to dy) (j : Int) : (Ls j).length ≤ 300 := by
  rcases Int.lt_or_le j 0 with q0 | q0
  · rw [(h.2.2.2 j q0).2]; exact Nat.zero_le _
  · rcases Int.lt_or_le j sc with q | q
    · rw [(h.2.1 j q0 q).2.2.2.2.2.2.2.1, List.length_take]; omega
    · rw [(h.2.2.1 j q).2.2]; exact Nat.zero_le _
theorem LStn_day (h : LStn tc sc bs sa so sb mm sts Ls fs lo hi to dy) {j k : Int} (h0 : 0 ≤ j) (h1 : j < sc) : (if 0 ≤ k ∧ k < ((Ls j).length : Int) then (Ls j).getD k.toNat 0 else -1) = (if 0 ≤ k ∧ k < 300 ∧ k < mm j then dy (300 * j + k) else -1) := by
  obtain ⟨a1, a2, -⟩ := LStn_Ls h h0 h1
  by_cases q : 0 ≤ k ∧ k < ((Ls j).length : Int)
  · have e := (a2 k.toNat (by omega)).1
    rw [Int.toNat_of_nonneg q.1] at e
    rw [if_pos q, if_pos (by split at a1 <;> omega), e]
  · rw [if_neg q, if_neg (by split at a1 <;> omega)]
theorem LStn_fit (h : LStn tc sc bs sa so sb mm sts Ls fs lo hi to dy) {j d : Int} (h0 : 0 ≤ j) (h1 : j < sc) (hd : isDay d = true) : fitS (sts j) (sb j) d = fitF (fs j) (bs (to j)) d := by
  obtain ⟨a1, a2, a3, a4, a5, -⟩ := h.2.1 j h0 h1
  rw [← a3]
  exact fitS_F a5 (of_decide_eq_true hd) a4 11 (Nat.le_refl _)
theorem LStn_fs (h : LStn tc sc bs sa so sb mm sts Ls fs lo hi to dy) (ht : tc ≤ 10) : ∀ s : Int, 0 ≤ s → s < sc → (0 ≤ to s ∧ to s < 10) ∧ (0 ≤ bs (to s) ∧ bs (to s) < 4400) ∧ RML lo hi s (fs s) := by
  intro j h0 h1
  obtain ⟨a1, a2, a3, a4, a5, a6, -⟩ := h.2.1 j h0 h1
  exact ⟨by omega, by rw [← a3]; exact a4, a6⟩
theorem LNet_mb (h : LNet sc mm so mb Ls fF tT dD size mcn few wg slv js M) : ∀ j : Int, 0 ≤ j → j < 30 → ∀ x, mb j = some x → j < sc ∧ x = so j := by
  intro j h0 h1 x hx
  rw [h.1 j h0 h1] at hx
  by_cases q : j < sc ∧ inN (mm j) = true
  · rw [if_pos q] at hx
    exact ⟨q.1, (Option.some.inj hx).symm⟩
  · rw [if_neg q] at hx; cases hx
theorem LNet_Mem (hS : LStn tc sc bs sa so sb mm sts Ls fs lo hi to dy) (h : LNet sc mm so mb Ls fF tT dD size mcn few wg slv js M) {x : Int} : Mem mb x ↔ (0 ≤ x ∧ x < sc) ∧ inN (mm x) = true := by
  have := hS.1
  unfold Mem
  constructor
  · rintro ⟨h0, h1, h2⟩
    rw [h.1 x h0 h1] at h2
    by_cases q : x < sc ∧ inN (mm x) = true
    · exact ⟨⟨h0, q.1⟩, q.2⟩
    · rw [if_neg q] at h2; cases h2
  · rintro ⟨⟨h0, h1⟩, h2⟩
    refine ⟨h0, by omega, ?_⟩
    rw [h.1 x h0 (by omega), if_pos ⟨h1, h2⟩]
    rfl
theorem LNet_LOk (hS : LStn tc sc bs sa so sb mm sts Ls fs lo hi to dy) (h : LNet sc mm so mb Ls fF tT dD size mcn few wg slv js M) : LOk mb Ls := by
  intro x hx
  obtain ⟨⟨h0, h1⟩, h2⟩ := (LNet_Mem hS h).mp hx
  obtain ⟨a1, a2, a3⟩ := LStn_Ls hS h0 h1
  have hr := inN_rng h2
  rw [if_pos hr.2] at a1
  refine ⟨by omega, fun j k j0 jk k1 => ?_, fun v hv => ?_⟩
  · exact a3 j.toNat k.toNat (by omega) (by omega)
  · obtain ⟨j, j0, j1, rfl⟩ := hv
    have := (a2 j.toNat (by omega)).2
    show 0 ≤ (Ls x).getD j.toNat 0 ∧ (Ls x).getD j.toNat 0 < 4000000
    omega
theorem LNet_LsM (hS : LStn tc sc bs sa so sb mm sts Ls fs lo hi to dy) (h : LNet sc mm so mb Ls fF tT dD size mcn few wg slv js M) : LsM sc mm dy mb Ls := by
  refine ⟨fun x h0 h1 => ?_, fun x h0 h1 h2 => ?_⟩
  · rw [h.1 x h0 h1]
    by_cases q : x < sc ∧ inN (mm x) = true
    · rw [if_pos q, q.2, decide_eq_true q.1]; rfl
    · rw [if_neg q]
      by_cases q1 : x < sc
      · rw [decide_eq_true q1]
        cases q2 : inN (mm x) with
        | true => exact absurd ⟨q1, q2⟩ q
        | false => rfl
      · rw [decide_eq_false q1]; rfl
  · obtain ⟨a1, a2, a3⟩ := LStn_Ls hS h0 h1
    have hr := inN_rng h2
    rw [if_pos hr.2] at a1
    refine ⟨a1, fun j j0 j1 => ?_⟩
    have := (a2 j.toNat (by omega)).1
    rw [Int.toNat_of_nonneg j0] at this
    exact this
theorem LNet_F (h : LNet sc mm so mb Ls fF tT dD size mcn few wg slv js M) (hsc : sc ≤ 30) : ∀ j : Int, 0 ≤ j → j < size → (0 ≤ fF j ∧ fF j < 30) ∧ (0 ≤ tT j ∧ tT j < 30) ∧ -600000 < dD j ∧ dD j < 600000 := by
  intro j h0 h1
  have := h.2.2.1 j h0 h1
  omega
theorem Sv_uniq {f1 f2 : Int} {w1 w2 : Nat} (h1 : SvP mb Ls fF tT dD size f1 w1) (h2 : SvP mb Ls fF tT dD size f2 w2) : f1 = f2 ∧ w1 = w2 := by
  have a := h1.2.2.2 _ h2.1.1 h2.1.2
  have b := h2.2.2.2 _ h1.1.1 h1.1.2
  have e1 := h1.2.1
  have e2 := h2.2.1
  have ef : f1 = f2 := by omega
  refine ⟨ef, ?_⟩
  have hfun : wbt w1 = wbt w2 := by
    rcases a.2 (by omega) with q | ⟨i, i0, i1, i2, i3⟩
    · exact q.symm
    · rcases b.2 (by omega) with q | ⟨k, k0, k1, k2, k3⟩
      · exact q
      · exfalso
        rcases Int.lt_trichotomy i k with z | z | z
        · have := k1 i z; rw [i2, i3] at this; cases this
        · rw [z, k3] at i2; cases i2
        · have := i1 k z; rw [k2, k3] at this; cases this
  apply Nat.eq_of_testBit_eq
  intro j
  have := congrFun hfun (j : Int)
  unfold wbt at this
  simpa using this
end LIx
