/-! the search for the least set of wrong ones -/
def wbt (w : Nat) (j : Int) : Bool := decide (0 ≤ j) && w.testBit j.toNat
def pop (Wr : Int → Bool) : Int := (cnt (fun k => Wr (k : Int)) 12 : Nat)
def Adm (mb : Int → Option Nat) (fF tT : Int → Int) (size : Int) (Wr : Int → Bool) : Prop := ∀ j, Wr j = true → 0 ≤ j ∧ j < size ∧ asked mb fF tT j = true
def Feas (mb : Int → Option Nat) (Ls : Int → List Int) (fF tT dD : Int → Int) (size : Int) (Wr : Int → Bool) : Prop := ∃ c, SolN mb Ls fF tT dD size Wr c
def Lex (a b : Int → Bool) : Prop := ∃ i, 0 ≤ i ∧ (∀ j, j < i → a j = b j) ∧ a i = false ∧ b i = true
def PS (mb : Int → Option Nat) (Ls : Int → List Int) (fF tT dD : Int → Int) (size : Int) (w : Nat) (i : Int) (Wr : Int → Bool) : Prop := Adm mb fF tT size Wr ∧ (∀ j, j < i → Wr j = wbt w j) ∧ Feas mb Ls fF tT dD size Wr
def SR (P : (Int → Bool) → Prop) (few : Int) (wg : Nat) (f2 : Int) (w2 : Nat) : Prop := (f2 = few ∧ w2 = wg ∧ ∀ Wr, P Wr → few ≤ pop Wr) ∨ (P (wbt w2) ∧ f2 = pop (wbt w2) ∧ f2 < few ∧ w2 < 4096 ∧ ∀ Wr, P Wr → f2 ≤ pop Wr ∧ (pop Wr = f2 → Wr = wbt w2 ∨ Lex (wbt w2) Wr))
theorem cnt_mono {p q : Nat → Bool} : ∀ {n : Nat}, (∀ k, p k = true → q k = true) → cnt p n ≤ cnt q n
  | 0, _ => Nat.le_refl _
  | n + 1, h => by
    have h1 := cnt_mono (n := n) h
    unfold cnt
    by_cases e1 : p n = true
    · rw [if_pos e1, if_pos (h n e1)]
      omega
    · rw [if_neg e1]
      omega
theorem cnt_less {p q : Nat → Bool} {k : Nat} (hk : p k = false) (hq : q k = true) : ∀ {n : Nat}, k < n → (∀ k, p k = true → q k = true) → cnt p n < cnt q n
  | 0, h, _ => absurd h (by omega)
  | n + 1, h, hm => by
    unfold cnt
    by_cases e1 : k = n
    · subst e1
      have h1 := cnt_mono (n := k) hm
      rw [if_neg (by rw [hk]; exact Bool.false_ne_true), if_pos hq]
      omega
    · have h1 := cnt_less hk hq (n := n) (by omega) hm
      by_cases e2 : p n = true
      · rw [if_pos e2, if_pos (hm n e2)]
        omega
      · rw [if_neg e2]
        omega
theorem pop_0 (Wr : Int → Bool) : 0 ≤ pop Wr ∧ pop Wr ≤ 12 := by
  unfold pop
  have := cnt_le (fun k => Wr (k : Int)) 12
  omega
theorem sr_le {P : (Int → Bool) → Prop} {few f2 : Int} {wg w2 : Nat} (h : SR P few wg f2 w2) (h0 : 0 ≤ few) : 0 ≤ f2 ∧ f2 ≤ few := by
  rcases h with ⟨h1, _, _⟩ | ⟨_, h1, h2, _⟩
  · omega
  · have := pop_0 (wbt w2)
    omega
theorem sr_two {P P1 P2 : (Int → Bool) → Prop} {few f1 f2 : Int} {wg w1 w2 : Nat} (hP : ∀ Wr, P Wr ↔ P1 Wr ∨ P2 Wr) (hL : ∀ a b, P1 a → P2 b → Lex a b) (h1 : SR P1 few wg f1 w1) (h2 : SR P2 f1 w1 f2 w2) : SR P few wg f2 w2 := by
  rcases h2 with ⟨a1, a2, a3⟩ | ⟨a1, a2, a3, a4, a5⟩
  · rcases h1 with ⟨b1, b2, b3⟩ | ⟨b1, b2, b3, b4, b5⟩
    · refine Or.inl ⟨by omega, by omega, fun Wr h => ?_⟩
      rcases (hP Wr).1 h with q | q
      · exact b3 Wr q
      · have := a3 Wr q
        omega
    · subst a1
      subst a2
      refine Or.inr ⟨(hP _).2 (Or.inl b1), b2, b3, b4, fun Wr h => ?_⟩
      rcases (hP Wr).1 h with q | q
      · exact b5 Wr q
      · exact ⟨a3 Wr q, fun _ => Or.inr (hL _ _ b1 q)⟩
  · have h3 : f1 ≤ few := by
      rcases h1 with ⟨b1, _, _⟩ | ⟨_, b1, b2, _⟩ <;> omega
    refine Or.inr ⟨(hP _).2 (Or.inr a1), a2, by omega, a4, fun Wr h => ?_⟩
    rcases (hP Wr).1 h with q | q
    · have h4 : f1 ≤ pop Wr := by
        rcases h1 with ⟨b1, b2, b3⟩ | ⟨b1, b2, b3, b4, b5⟩
        · have := b3 Wr q
          omega
        · exact (b5 Wr q).1
      exact ⟨by omega, fun q9 => by omega⟩
    · exact a5 Wr q
theorem sr_none {P : (Int → Bool) → Prop} {few : Int} {wg : Nat} (h : ∀ Wr, P Wr → few ≤ pop Wr) : SR P few wg few wg := Or.inl ⟨rfl, rfl, h⟩
theorem sr_must {P P1 : (Int → Bool) → Prop} {few f1 : Int} {wg w1 : Nat} (hP : ∀ Wr, P1 Wr → P Wr) (hL : ∀ a, P a → P1 a ∨ ∃ b, P1 b ∧ pop b < pop a) (h1 : SR P1 few wg f1 w1) : SR P few wg f1 w1 := by
  rcases h1 with ⟨b1, b2, b3⟩ | ⟨b1, b2, b3, b4, b5⟩
  · refine Or.inl ⟨b1, b2, fun Wr h => ?_⟩
    rcases hL Wr h with q | ⟨b, q, q2⟩
    · exact b3 Wr q
    · have := b3 b q
      omega
  · refine Or.inr ⟨hP _ b1, b2, b3, b4, fun Wr h => ?_⟩
    rcases hL Wr h with q | ⟨b, q, q2⟩
    · exact b5 Wr q
    · have := (b5 b q).1
      exact ⟨by omega, fun q9 => by omega⟩
theorem sr_iff {P P1 : (Int → Bool) → Prop} {few f1 : Int} {wg w1 : Nat} (hP : ∀ Wr, P Wr ↔ P1 Wr) (h1 : SR P1 few wg f1 w1) : SR P few wg f1 w1 := sr_must (fun Wr h => (hP Wr).2 h) (fun a h => Or.inl ((hP a).1 h)) h1
theorem sr_base {P : (Int → Bool) → Prop} {few : Int} {wg w : Nat} (hP : ∀ Wr, P Wr ↔ Wr = wbt w) (hf : pop (wbt w) < few) (hw : w < 4096) : SR P few wg (pop (wbt w)) w :=
  Or.inr ⟨(hP _).2 rfl, rfl, hf, hw, fun Wr h => by have := (hP Wr).1 h; subst this; exact ⟨Int.le_refl _, fun _ => Or.inl rfl⟩⟩
theorem wbt_lo {w : Nat} {i j : Int} (hj : j < i) : wbt (w + 2 ^ i.toNat) j = wbt w j := by
  unfold wbt
  by_cases h : 0 ≤ j
  · rw [Nat.add_comm, Nat.testBit_two_pow_add_gt (by omega)]
  · rw [decide_eq_false h, Bool.false_and, Bool.false_and]
theorem wbt_hi {w : Nat} {i j : Int} (h : w < 2 ^ i.toNat) (hj : i ≤ j) : wbt w j = false := by
  unfold wbt
  rw [Nat.testBit_lt_two_pow (Nat.lt_of_lt_of_le h (Nat.pow_le_pow_right (by decide) (by omega))), Bool.and_false]
theorem wbt_on {w : Nat} {i : Int} (hi : 0 ≤ i) (h : w < 2 ^ i.toNat) : wbt (w + 2 ^ i.toNat) i = true := by
  unfold wbt
  rw [Nat.add_comm, Nat.testBit_two_pow_add_eq, Nat.testBit_lt_two_pow h, decide_eq_true hi]
  rfl
theorem wbt_next {w : Nat} {i : Int} (hi : 0 ≤ i) (h : w < 2 ^ i.toNat) : w < 2 ^ (i + 1).toNat ∧ w + 2 ^ i.toNat < 2 ^ (i + 1).toNat := by
  rw [show (i + 1).toNat = i.toNat + 1 from by omega, Nat.pow_succ]
  omega
section Srch
variable {mb : Int → Option Nat} {Ls : Int → List Int} {js jo : Int → Int} {M Mo : Nat → Int → Int} {i size : Int} {S : (Int → Int) → Prop} {fF tT dD : Int → Int} {w : Nat} {few : Int} {wg : Nat}
theorem row_iff {S2 : (Int → Int) → Prop} (h : RowOk mb Ls js M i S) (hs : ∀ c, S2 c ↔ S c) : RowOk mb Ls js M i S2 := ⟨h.1, h.2.1, h.2.2.1, fun c => (hs c).trans (h.2.2.2.1 c), h.2.2.2.2⟩
theorem sol_next (hi : 0 ≤ i) {Wr W2 : Int → Bool} (he : ∀ j, j < i → W2 j = Wr j) (c : Int → Int) : SolN mb Ls fF tT dD (i + 1) W2 c ↔ SolN mb Ls fF tT dD i Wr c ∧ (asked mb fF tT i = true → W2 i = false → c (tT i) = c (fF i) + dD i) := by
  unfold SolN
  constructor
  · rintro ⟨h1, h2⟩
    exact ⟨⟨h1, fun j q1 q2 q3 q4 => h2 j q1 (by omega) q3 (by rw [he j q2]; exact q4)⟩, fun q1 q2 => h2 i hi (by omega) q1 q2⟩
  · rintro ⟨⟨h1, h2⟩, h3⟩
    refine ⟨h1, fun j q1 q2 q3 q4 => ?_⟩
    by_cases e1 : j = i
    · subst e1
      exact h3 q3 q4
    · exact h2 j q1 (by omega) q3 (by rw [← he j (by omega)]; exact q4)
theorem sol_pre (hs : i ≤ size) {Wr : Int → Bool} (he : ∀ j, j < i → Wr j = wbt w j) {c : Int → Int} (h : SolN mb Ls fF tT dD size Wr c) : SolN mb Ls fF tT dD i (wbt w) c :=
  ⟨h.1, fun j q1 q2 q3 q4 => h.2 j q1 (by omega) q3 (by rw [he j q2]; exact q4)⟩
theorem ps_split (hi : 0 ≤ i) (hw : w < 2 ^ i.toNat) (Wr : Int → Bool) : PS mb Ls fF tT dD size w i Wr ↔ PS mb Ls fF tT dD size w (i + 1) Wr ∨ PS mb Ls fF tT dD size (w + 2 ^ i.toNat) (i + 1) Wr := by
  constructor
  · rintro ⟨h1, h2, h3⟩
    by_cases e1 : Wr i = true
    · refine Or.inr ⟨h1, fun j hj => ?_, h3⟩
      by_cases e2 : j = i
      · subst e2
        rw [e1, wbt_on hi hw]
      · rw [wbt_lo (by omega)]
        exact h2 j (by omega)
    · refine Or.inl ⟨h1, fun j hj => ?_, h3⟩
      by_cases e2 : j = i
      · subst e2
        rw [wbt_hi hw (Int.le_refl _)]
        exact Bool.eq_false_iff.2 e1
      · exact h2 j (by omega)
  · rintro (⟨h1, h2, h3⟩ | ⟨h1, h2, h3⟩)
    · exact ⟨h1, fun j hj => h2 j (by omega), h3⟩
    · exact ⟨h1, fun j hj => (h2 j (by omega)).trans (wbt_lo hj), h3⟩
theorem ps_lex (hi : 0 ≤ i) (hw : w < 2 ^ i.toNat) (a b : Int → Bool) (ha : PS mb Ls fF tT dD size w (i + 1) a) (hb : PS mb Ls fF tT dD size (w + 2 ^ i.toNat) (i + 1) b) : Lex a b :=
  ⟨i, hi, fun j hj => ((ha.2.1 j (by omega)).trans (wbt_lo hj).symm).trans (hb.2.1 j (by omega)).symm, (ha.2.1 i (by omega)).trans (wbt_hi hw (Int.le_refl _)), (hb.2.1 i (by omega)).trans (wbt_on hi hw)⟩
theorem ps_free (hi : 0 ≤ i) (hw : w < 2 ^ i.toNat) (hn : asked mb fF tT i = false) (Wr : Int → Bool) : PS mb Ls fF tT dD size w i Wr ↔ PS mb Ls fF tT dD size w (i + 1) Wr := by
  rw [ps_split hi hw]
  constructor
  · rintro (h | h)
    · exact h
    · exfalso
      have h1 := (h.2.1 i (by omega)).trans (wbt_on hi hw)
      have h2 := (h.1 i h1).2.2
      rw [hn] at h2
      exact Bool.false_ne_true h2
  · exact Or.inl
theorem ps_cut (hw : w < 2 ^ i.toNat) (Wr : Int → Bool) (h : PS mb Ls fF tT dD size w i Wr) : pop (wbt w) ≤ pop Wr := by
  have : cnt (fun k => wbt w (k : Int)) 12 ≤ cnt (fun k => Wr (k : Int)) 12 := cnt_mono (fun k hk => by
    by_cases e1 : (k : Int) < i
    · rw [h.2.1 _ e1]
      exact hk
    · rw [wbt_hi hw (by omega)] at hk
      exact absurd hk Bool.false_ne_true)
  unfold pop
  omega
theorem ps_end (hs : size ≤ i) (hw : w < 2 ^ size.toNat) (hA : Adm mb fF tT size (wbt w)) (hF : Feas mb Ls fF tT dD size (wbt w)) (Wr : Int → Bool) : PS mb Ls fF tT dD size w i Wr ↔ Wr = wbt w := by
  constructor
  · rintro ⟨h1, h2, h3⟩
    funext j
    by_cases e1 : j < i
    · exact h2 j e1
    · rw [wbt_hi hw (by omega)]
      cases hq : Wr j with
      | false => rfl
      | true => exact absurd (h1 j hq).2.1 (by omega)
  · intro h
    subst h
    exact ⟨hA, fun _ _ => rfl, hF⟩
theorem ps_must (hi : 0 ≤ i ∧ i < 12) (hs : i < size) (hw : w < 2 ^ i.toNat) (hr : ∀ c, SolN mb Ls fF tT dD i (wbt w) c → c (tT i) = c (fF i) + dD i) (a : Int → Bool) (ha : PS mb Ls fF tT dD size w i a) : PS mb Ls fF tT dD size w (i + 1) a ∨ ∃ b, PS mb Ls fF tT dD size w (i + 1) b ∧ pop b < pop a := by
  rcases (ps_split hi.1 hw a).1 ha with h | h
  · exact Or.inl h
  · refine Or.inr ⟨fun j => if j = i then false else a j, ⟨fun j hj => ?_, fun j hj => ?_, ?_⟩, ?_⟩
    · dsimp only at hj
      split at hj
      · exact absurd hj Bool.false_ne_true
      · exact h.1 j hj
    · dsimp only
      split
      · next e1 => subst e1; exact (wbt_hi hw (Int.le_refl _)).symm
      · exact ha.2.1 j (by omega)
    · obtain ⟨c, hc⟩ := h.2.2
      refine ⟨c, hc.1, fun j q1 q2 q3 q4 => ?_⟩
      by_cases e1 : j = i
      · subst e1
        exact hr c (sol_pre (by omega) ha.2.1 hc)
      · dsimp only at q4
        rw [if_neg e1] at q4
        exact hc.2 j q1 q2 q3 q4
    · have : cnt (fun k : Nat => if (k : Int) = i then false else a (k : Int)) 12 < cnt (fun k => a (k : Int)) 12 := cnt_less (k := i.toNat) (by show (if _ then _ else _) = _; rw [if_pos (by omega)]) (by show a _ = true; rw [show ((i.toNat : Nat) : Int) = i from by omega]; exact (h.2.1 i (by omega)).trans (wbt_on hi.1 hw)) (by omega) (fun k hk => by
        split at hk
        · exact absurd hk Bool.false_ne_true
        · exact hk)
      unfold pop
      exact Int.ofNat_lt.2 this
theorem ps_cannot (hi : 0 ≤ i) (hs : i < size) (hw : w < 2 ^ i.toNat) (hk : asked mb fF tT i = true) (hr : ∀ c, SolN mb Ls fF tT dD i (wbt w) c → c (tT i) ≠ c (fF i) + dD i) (Wr : Int → Bool) (h : PS mb Ls fF tT dD size w (i + 1) Wr) : False := by
  obtain ⟨c, hc⟩ := h.2.2
  exact hr c (sol_pre (by omega) (fun j hj => h.2.1 j (by omega)) hc) (hc.2 i hi hs hk ((h.2.1 i (by omega)).trans (wbt_hi hw (Int.le_refl _))))
/-- what a search leaves as it was -/
def FrM (i : Int) (M Mo : Nat → Int → Int) (js jo : Int → Int) : Prop := (∀ k : Nat, k < (i + 1).toNat → Mo k = M k) ∧ (∀ k : Nat, 13 ≤ k → k < (i + 14).toNat → Mo k = M k) ∧ (∀ k : Nat, 26 ≤ k → k < (i + 26).toNat → Mo k = M k) ∧ ∀ j : Int, j < i → jo j = js j
theorem frM_rf : FrM i M M js js := ⟨fun _ _ => rfl, fun _ _ _ => rfl, fun _ _ _ => rfl, fun _ _ => rfl⟩
theorem frM_tr {M2 : Nat → Int → Int} {j2 : Int → Int} (h1 : FrM i M Mo js jo) (h2 : FrM i Mo M2 jo j2) : FrM i M M2 js j2 := ⟨fun k h => (h2.1 k h).trans (h1.1 k h), fun k h g => (h2.2.1 k h g).trans (h1.2.1 k h g), fun k h g => (h2.2.2.1 k h g).trans (h1.2.2.1 k h g), fun j h => (h2.2.2.2 j h).trans (h1.2.2.2 j h)⟩
theorem frM_dn (h : FrM (i + 1) M Mo js jo) : FrM i M Mo js jo := ⟨fun k q => h.1 k (by omega), fun k q g => h.2.1 k q (by omega), fun k q g => h.2.2.1 k q (by omega), fun j q => h.2.2.2 j (by omega)⟩
theorem frM_ps (hi : 0 ≤ i ∧ i < 12) : FrM i M (psM M i) js js := ⟨fun k q => ps_ne (by omega) (by omega), fun k q g => ps_ne (by omega) (by omega), fun k q g => ps_ne (by omega) (by omega), fun _ _ => rfl⟩
theorem frM_jp {fs sc ap h : Int} (hi : 0 ≤ i ∧ i < 12) (hj : JP Ls M Mo js jo i fs sc ap h) : FrM i M Mo js jo := by
  rcases hj with ⟨_, _, h1, h2⟩ | ⟨_, _, _, h1, h2⟩ | ⟨_, _, rr, n, _, _, _, h1, h2⟩
  · exact ⟨fun k q => h1 k (by omega), fun k q g => h1 k (by omega), fun k q g => h1 k (by omega), fun j q => h2 j (by omega)⟩
  · subst h1
    subst h2
    exact frM_ps hi
  · refine ⟨fun k q => ?_, fun k q g => ?_, fun k q g => ?_, fun j q => by rw [h1, us_ne (by omega)]⟩
    all_goals rw [h2.1 k (by omega) (by omega), um_ne (by omega)]
theorem row_fr (hi : 0 ≤ i ∧ i ≤ 12) (h : RowOk mb Ls js M i S) (hf : FrM i M Mo js jo) : RowOk mb Ls jo Mo i S :=
  row_congr hi.1 h (fun x _ _ => by rw [hf.1 _ (by omega)]) (fun x _ _ => by rw [hf.2.1 _ (by omega) (by omega)]) (fun v hv => dl_eq hv hf.2.2.1) (fun v hv => sz_eq hv hf.2.2.2)
end Srch
