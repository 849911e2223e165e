/-! what a start has over another; the best of those that were looked at -/
def Gd (f g : Int → Int) (a b : Int) : Prop := f b < f a ∨ (f b = f a ∧ (g a < g b ∨ (g a = g b ∧ a ≤ b)))
theorem Gd_tr {f g : Int → Int} {a b c : Int} (h1 : Gd f g a b) (h2 : Gd f g b c) : Gd f g a c := by
  unfold Gd at *
  omega
def Dm (f g : Int → Int) (P : Int → Prop) (U ba bm bs : Int) : Prop := (ba = 0 ∧ ∀ X : Int, P X → f X = 0) ∨ (0 < ba ∧ f bs = ba ∧ g bs = bm ∧ bs ≤ U ∧ ∀ X : Int, P X → Gd f g bs X)
theorem cons1 {f g : Int → Int} {P : Int → Prop} {U ba bm bs p ag sum : Int} (h : Dm f g P U ba bm bs) (hU : U ≤ p) (h0 : 0 ≤ ag) (hf : f p = ag) (hg : g p = sum) :
    Dm f g (fun X => P X ∨ X = p) p (if (ba < ag ∨ ag = ba ∧ sum < bm) then ag else ba) (if (ba < ag ∨ ag = ba ∧ sum < bm) then sum else bm) (if (ba < ag ∨ ag = ba ∧ sum < bm) then p else bs) := by
  rcases h with ⟨hb, h1⟩ | ⟨hb, hfb, hgb, hbU, h1⟩
  · by_cases hz : ag = 0
    · left
      refine ⟨by split <;> omega, fun X hX => ?_⟩
      rcases hX with hX | hX
      · exact h1 X hX
      · rw [hX]; omega
    · have hc : ba < ag ∨ ag = ba ∧ sum < bm := by omega
      rw [if_pos hc, if_pos hc, if_pos hc]
      right
      refine ⟨by omega, hf, hg, Int.le_refl _, fun X hX => ?_⟩
      rcases hX with hX | hX
      · left
        rw [h1 X hX]
        omega
      · subst hX
        unfold Gd
        omega
  · right
    by_cases hc : ba < ag ∨ ag = ba ∧ sum < bm
    · rw [if_pos hc, if_pos hc, if_pos hc]
      have hpb : Gd f g p bs := by
        unfold Gd
        omega
      refine ⟨by omega, hf, hg, Int.le_refl _, fun X hX => ?_⟩
      rcases hX with hX | hX
      · exact Gd_tr hpb (h1 X hX)
      · subst hX
        unfold Gd
        omega
    · rw [if_neg hc, if_neg hc, if_neg hc]
      refine ⟨hb, hfb, hgb, by omega, fun X hX => ?_⟩
      rcases hX with hX | hX
      · exact h1 X hX
      · subst hX
        unfold Gd
        omega
theorem seg_mono {sl a b : Int} (h : 0 ≤ sl) (hab : a ≤ b) : sl * a ≤ sl * b := Int.mul_le_mul_of_nonneg_left hab h
theorem seg_down {sl a b : Int} (h : sl < 0) (hab : a < b) : sl * b < sl * a := Int.mul_lt_mul_of_neg_left hab h
theorem cons2 {f g : Int → Int} {re st ba bm bs ag ht sl : Int} (h : Dm f g (fun X => (X < re ∨ X = re) ∨ X = st - 1) (st - 1) ba bm bs) (hrs : re < st) (hseg : ∀ X : Int, re ≤ X → X < st → f X = ag ∧ g X = ht + sl * X) : Dm f g (fun X => X < st) st ba bm bs := by
  rcases h with ⟨hb, h1⟩ | ⟨hb, hfb, hgb, hbU, h1⟩
  · left
    refine ⟨hb, fun X hX => ?_⟩
    rcases Int.lt_or_le X re with q | q
    · exact h1 X (Or.inl (Or.inl q))
    · have a1 := h1 re (Or.inl (Or.inr rfl))
      rw [(hseg re (Int.le_refl _) hrs).1] at a1
      rw [(hseg X q hX).1, a1]
  · right
    refine ⟨hb, hfb, hgb, by omega, fun X hX => ?_⟩
    rcases Int.lt_or_le X re with q | q
    · exact h1 X (Or.inl (Or.inl q))
    · obtain ⟨x1, x2⟩ := hseg X q hX
      obtain ⟨r1, r2⟩ := hseg re (Int.le_refl _) hrs
      obtain ⟨s1, s2⟩ := hseg (st - 1) (by omega) (by omega)
      rcases Int.lt_or_le sl 0 with w | w
      · refine Gd_tr (h1 (st - 1) (Or.inr rfl)) ?_
        unfold Gd
        rcases Int.lt_or_le X (st - 1) with z | z
        · have := seg_down w z
          omega
        · have e : X = st - 1 := by omega
          subst e
          omega
      · refine Gd_tr (h1 re (Or.inl (Or.inr rfl))) ?_
        unfold Gd
        have := seg_mono w q
        omega
/-- what a stone's turns say of it -/
def cA (j : Int) : Int := if j % 3 = 0 then 0 else 1
def cS (j : Int) : Int := if j % 3 = 1 then -1 else if j % 3 = 2 then 1 else 0
def cH (g : Int → Int) (dk j : Int) : Int := if j % 3 = 1 then g (j / 3) - dk else if j % 3 = 2 then -(g (j / 3) - dk) else 0
def TT (t g : Int → Int) (n nr : Int) : Prop := ∀ i : Int, 0 ≤ i → i < n → t (3 * i) = tF g nr i ∧ t (3 * i + 1) = g i ∧ t (3 * i + 2) = tL g n nr i + 1
theorem seg_one {t g : Int → Int} {n nr dk j X v : Int} (hT : TT t g n nr) (hs : srt g n) (hv : isD g n (dk + X) v) (hj : 0 ≤ j ∧ j ≤ 3 * n) (h1 : 0 < j → t (j - 1) ≤ dk + X) (h2 : j < 3 * n → dk + X < t j) : (if v ≤ nr then (1 : Int) else 0) = cA j ∧ (if v ≤ nr then v else 0) = cH g dk j + cS j * X := by
  have hm : j % 3 = 0 ∨ j % 3 = 1 ∨ j % 3 = 2 := by omega
  obtain ⟨i, hi⟩ : ∃ i, i = j / 3 := ⟨_, rfl⟩
  rcases hm with m | m | m
  · have r := reg0 (i := i) (nr := nr) hs hv (by omega) (fun q => by
      have := (hT (i - 1) (by omega) (by omega)).2.2
      rw [show 3 * (i - 1) + 2 = j - 1 from by omega] at this
      have := h1 (by omega)
      omega) (fun q => by
      have := (hT i (by omega) q).1
      rw [show 3 * i = j from by omega] at this
      have := h2 (by omega)
      omega)
    have hnv : ¬ v ≤ nr := by omega
    unfold cA cH cS
    simp [hnv, m]
  · have r := reg1 (i := i) (nr := nr) hs hv (by omega) (by
      have := (hT i (by omega) (by omega)).1
      rw [show 3 * i = j - 1 from by omega] at this
      have := h1 (by omega)
      omega) (by
      have := (hT i (by omega) (by omega)).2.1
      rw [show 3 * i + 1 = j from by omega] at this
      have := h2 (by omega)
      omega)
    unfold cA cH cS
    rw [if_pos r.2, if_pos r.2, if_neg (by omega), if_pos m, if_pos m, ← hi]
    refine ⟨rfl, ?_⟩
    rw [Int.neg_mul, Int.one_mul]
    omega
  · have r := reg2 (i := i) (nr := nr) hs hv (by omega) (by
      have := (hT i (by omega) (by omega)).2.1
      rw [show 3 * i + 1 = j - 1 from by omega] at this
      have := h1 (by omega)
      omega) (by
      have := (hT i (by omega) (by omega)).2.2
      rw [show 3 * i + 2 = j from by omega] at this
      have := h2 (by omega)
      omega)
    unfold cA cH cS
    rw [if_pos r.2, if_pos r.2, if_neg (by omega), if_neg (by omega), if_pos m, if_neg (by omega), if_pos m, ← hi]
    refine ⟨rfl, ?_⟩
    rw [Int.one_mul]
    omega
/-- the turns come one behind the other -/
theorem TT_mono {t g : Int → Int} {n nr j : Int} (hT : TT t g n nr) (hs : srt g n) (hnr : 0 ≤ nr) (h0 : 0 ≤ j) (h1 : j + 1 < 3 * n) : t j ≤ t (j + 1) := by
  obtain ⟨i, hi⟩ : ∃ i, i = j / 3 := ⟨_, rfl⟩
  obtain ⟨a1, a2, a3⟩ := hT i (by omega) (by omega)
  have hm : j % 3 = 0 ∨ j % 3 = 1 ∨ j % 3 = 2 := by omega
  rcases hm with m | m | m
  · rw [show j = 3 * i from by omega, a1, a2]
    unfold tF
    by_cases q : 0 < i
    · rw [if_pos q]
      have := hs (i - 1) i (by omega) (by omega) (by omega)
      unfold imax
      split <;> omega
    · rw [if_neg q]
      omega
  · rw [show j = 3 * i + 1 from by omega, show 3 * i + 1 + 1 = 3 * i + 2 from by omega, a2, a3]
    unfold tL
    by_cases q : i + 1 < n
    · rw [if_pos q]
      have := hs i (i + 1) (by omega) (by omega) q
      unfold imin
      split <;> omega
    · rw [if_neg q]
      omega
  · obtain ⟨b1, b2, b3⟩ := hT (i + 1) (by omega) (by omega)
    rw [show j = 3 * i + 2 from by omega, show 3 * i + 2 + 1 = 3 * (i + 1) from by omega, a3, b1]
    unfold tF tL
    rw [if_pos (by omega), if_pos (by omega), show i + 1 - 1 = i from by omega]
    have := hs i (i + 1) (by omega) (by omega) (by omega)
    unfold imax imin
    split <;> split <;> omega
theorem TT_rng {t g : Int → Int} {n nr : Int} (hT : TT t g n nr) (hg : ∀ i : Int, 0 ≤ i → i < n → 0 ≤ g i ∧ g i ≤ 10000000) (hnr : 0 ≤ nr ∧ nr ≤ 1000) : ∀ j : Int, 0 ≤ j → j < 3 * n → -1000 ≤ t j ∧ t j ≤ 10001002 := by
  intro j h0 h1
  obtain ⟨i, hi⟩ : ∃ i, i = j / 3 := ⟨_, rfl⟩
  obtain ⟨a1, a2, a3⟩ := hT i (by omega) (by omega)
  have hgi := hg i (by omega) (by omega)
  have hm : j % 3 = 0 ∨ j % 3 = 1 ∨ j % 3 = 2 := by omega
  rcases hm with m | m | m
  · rw [show j = 3 * i from by omega, a1]
    unfold tF
    by_cases q : 0 < i
    · rw [if_pos q]
      have := hg (i - 1) (by omega) (by omega)
      unfold imax
      split <;> omega
    · rw [if_neg q]
      omega
  · rw [show j = 3 * i + 1 from by omega, a2]
    omega
  · rw [show j = 3 * i + 2 from by omega, a3]
    unfold tL
    by_cases q : i + 1 < n
    · rw [if_pos q]
      have := hg (i + 1) (by omega) q
      unfold imin
      split <;> omega
    · rw [if_neg q]
      omega
/-- the sweep's state: the turns done, the counts -/
def Swp (t g d x : Int → Int) (n : Int) (N : Nat) (dn re ag sl ht : Int) : Prop :=
  (∀ k : Nat, k < N → 0 ≤ x k ∧ x k ≤ 3 * n) ∧ sF (fun k => x k) N = dn ∧ ag = sF (fun k => cA (x k)) N ∧ sl = sF (fun k => cS (x k)) N ∧ ht = sF (fun k => cH g (d k) (x k)) N ∧ (∀ k : Nat, k < N → 0 < x k → t (x k - 1) - d k ≤ re) ∧ (0 < dn → ∀ k : Nat, k < N → x k < 3 * n → re ≤ t (x k) - d k)
theorem swp_seg {t g d x ds : Int → Int} {n nr dn re ag sl ht : Int} {nd : List Int} (hT : TT t g n nr) (hs : srt g n) (hds : ∀ z : Int, isD g n z (ds z)) (hd : ∀ k : Nat, k < nd.length → d k = nd.getD k 0) (hS : Swp t g d x n nd.length dn re ag sl ht) {X : Int} (h1 : ∀ k : Nat, k < nd.length → 0 < x k → t (x k - 1) - d k ≤ X) (h2 : ∀ k : Nat, k < nd.length → x k < 3 * n → X < t (x k) - d k) : agF ds nr nd X = ag ∧ smF ds nr nd X = ht + sl * X := by
  obtain ⟨s1, s2, s3, s4, s5, s6, s7⟩ := hS
  have key : ∀ k : Nat, k < nd.length → (if ds (nd.getD k 0 + X) ≤ nr then (1 : Int) else 0) = cA (x k) ∧ (if ds (nd.getD k 0 + X) ≤ nr then ds (nd.getD k 0 + X) else 0) = cH g (d k) (x k) + cS (x k) * X := fun k hk => by
    have e := hd k hk
    rw [← e]
    exact seg_one hT hs (hds _) (s1 k hk) (fun q => by have := h1 k hk q; omega) (fun q => by have := h2 k hk q; omega)
  refine ⟨?_, ?_⟩
  · unfold agF
    rw [s3]
    exact sF_cong (fun k hk => (key k hk).1)
  · unfold smF
    rw [s4, s5, sF_cong (fun k hk => (key k hk).2), sF_add, sF_mul]
/-- a turn -/
theorem swp_turn {t g d x : Int → Int} {n nr dn re ag sl ht : Int} {N q : Nat} (hT : TT t g n nr) (hs : srt g n) (hnr : 0 ≤ nr) (hS : Swp t g d x n N dn re ag sl ht) (hq : q < N) (hxq : x q < 3 * n) (hmin : ∀ k : Nat, k < N → x k < 3 * n → t (x q) - d q ≤ t (x k) - d k) :
    Swp t g d (us x q (x q + 1)) n N (dn + 1) (t (x q) - d q) (if x q % 3 = 1 then ag else ag + (if x q % 3 = 0 then 1 else -1)) (if x q % 3 = 1 then sl + 2 else sl - 1) (if x q % 3 = 1 then ht - 2 * (t (x q - x q % 3 + 1) - d q) else ht + (t (x q - x q % 3 + 1) - d q)) := by
  obtain ⟨s1, s2, s3, s4, s5, s6, s7⟩ := hS
  have hx0 := s1 q hq
  have hnn : 0 ≤ dn := by
    rw [← s2]
    have := sF_le (f := fun _ => 0) (g := fun k : Nat => x k) (n := N) (fun k hk => (s1 k hk).1)
    rwa [sF_zero (fun _ _ => rfl)] at this
  have hne : ∀ k : Nat, k ≠ q → us x q (x q + 1) k = x k := fun k hk => us_ne (by omega)
  have hat : us x q (x q + 1) q = x q + 1 := us_at
  obtain ⟨i, hi⟩ : ∃ i, i = x q / 3 := ⟨_, rfl⟩
  obtain ⟨a1, a2, a3⟩ := hT i (by omega) (by omega)
  have emid : t (x q - x q % 3 + 1) = g (x q / 3) := by
    rw [show x q - x q % 3 + 1 = 3 * i + 1 from by omega, a2, hi]
  have hm : x q % 3 = 0 ∨ x q % 3 = 1 ∨ x q % 3 = 2 := by omega
  refine ⟨fun k hk => ?_, ?_, ?_, ?_, ?_, fun k hk h => ?_, fun _ k hk h => ?_⟩
  · by_cases e : k = q
    · subst e; rw [hat]; omega
    · rw [hne k e]; exact s1 k hk
  · rw [sF_upd (f := fun k : Nat => x k) hq (fun k _ e => hne k e), s2, hat]
    omega
  · rw [sF_upd (f := fun k : Nat => cA (x k)) hq (fun k _ e => by rw [hne k e]), ← s3, hat]
    unfold cA
    rcases hm with m | m | m
    · rw [if_neg (by omega), if_pos m, if_neg (by omega), if_pos m]; omega
    · rw [if_pos m, if_neg (by omega), if_neg (by omega)]; omega
    · rw [if_neg (by omega), if_neg (by omega), if_pos (by omega), if_neg (by omega)]; omega
  · rw [sF_upd (f := fun k : Nat => cS (x k)) hq (fun k _ e => by rw [hne k e]), ← s4, hat]
    unfold cS
    rcases hm with m | m | m
    · rw [if_neg (by omega), if_pos (by omega), if_neg (by omega), if_neg (by omega)]; omega
    · rw [if_pos m, if_neg (by omega), if_pos (by omega), if_pos m]; omega
    · rw [if_neg (by omega), if_neg (by omega), if_neg (by omega), if_neg (by omega), if_pos m]; omega
  · rw [sF_upd (f := fun k : Nat => cH g (d k) (x k)) hq (fun k _ e => by rw [hne k e]), ← s5, hat, emid]
    unfold cH
    rcases hm with m | m | m
    · rw [if_neg (by omega), if_pos (by omega), if_neg (by omega), if_neg (by omega), show (x q + 1) / 3 = x q / 3 from by omega]; omega
    · rw [if_pos m, if_neg (by omega), if_pos (by omega), if_pos m, show (x q + 1) / 3 = x q / 3 from by omega]; omega
    · rw [if_neg (by omega), if_neg (by omega), if_neg (by omega), if_neg (by omega), if_pos m]; omega
  · by_cases e : k = q
    · subst e
      rw [hat, show x k + 1 - 1 = x k from by omega]
      exact Int.le_refl _
    · rw [hne k e] at h ⊢
      have u1 := s6 k hk h
      have : 0 < dn := by
        rw [← s2]
        have := sF_part (f := fun k : Nat => x k) (n := N) hk (fun k hk => (s1 k hk).1)
        omega
      have := s7 this q hq hxq
      omega
  · by_cases e : k = q
    · subst e
      rw [hat] at h ⊢
      have := TT_mono hT hs hnr hx0.1 h
      omega
    · rw [hne k e] at h ⊢
      exact hmin k hk h
