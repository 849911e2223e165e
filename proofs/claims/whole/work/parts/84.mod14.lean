
def aNf (mb : Int → Option Nat) (fF tT : Int → Int) : Nat → Bool := fun j => asked mb fF tT (j : Int)
def eS (mb : Int → Option Nat) (fF tT : Int → Int) (dn : Int) (wg : Nat) : Nat := encJ (aNf mb fF tT) (fun j => wbt wg (j : Int)) dn.toNat
/-- what the solved net says of its wrong distances -/
def SvP (mb : Int → Option Nat) (Ls : Int → List Int) (fF tT dD : Int → Int) (size few : Int) (wg : Nat) : Prop := (Adm mb fF tT size (wbt wg) ∧ Feas mb Ls fF tT dD size (wbt wg)) ∧ few = pop (wbt wg) ∧ wg < 4096 ∧ ∀ Wr, Adm mb fF tT size Wr → Feas mb Ls fF tT dD size Wr → few ≤ pop Wr ∧ (pop Wr = few → Wr = wbt wg ∨ Lex (wbt wg) Wr)
theorem SvP_of {mb : Int → Option Nat} {Ls : Int → List Int} {fF tT dD : Int → Int} {size few : Int} {wg : Nat} {js : Int → Int} {M : Nat → Int → Int} (h : Sv mb Ls fF tT dD size few wg js M) : SvP mb Ls fF tT dD size few wg := ⟨h.1, h.2.1, h.2.2.1, h.2.2.2.1⟩
def AkOk (A : Nat → Bool) (n : Nat) (ak : Int → Int) : Prop := ∀ j : Nat, j < n → A j = true → ak (cnt A j : Int) = (j : Int)
def LsM (sn : Int) (mn dy : Int → Int) (mb : Int → Option Nat) (Ls : Int → List Int) : Prop := (∀ x : Int, 0 ≤ x → x < 30 → (mb x).isSome = (decide (x < sn) && inN (mn x))) ∧ ∀ x : Int, 0 ≤ x → x < sn → inN (mn x) = true → ((Ls x).length : Int) = mn x ∧ ∀ j : Int, 0 ≤ j → j < mn x → dy (300 * x + j) = (Ls x).getD j.toNat 0
section SolM
variable {sn dn : Int} {mn dy fr t2 fa ak : Int → Int} {mb : Int → Option Nat} {Ls : Int → List Int} {few am : Int} {wg ss : Nat}
theorem memM (hl : LsM sn mn dy mb Ls) (hsn : sn ≤ 30) {x : Int} : Mem mb x ↔ 0 ≤ x ∧ x < sn ∧ inN (mn x) = true := by
  unfold Mem
  constructor
  · rintro ⟨h0, h1, h2⟩
    rw [hl.1 x h0 h1, Bool.and_eq_true] at h2
    exact ⟨h0, of_decide_eq_true h2.1, h2.2⟩
  · rintro ⟨h0, h1, h2⟩
    refine ⟨h0, by omega, ?_⟩
    rw [hl.1 x h0 (by omega), decide_eq_true h1, h2]
    rfl
theorem choM (hl : LsM sn mn dy mb Ls) (hsn : sn ≤ 30) {c : Int → Int} : ChoM sn mn dy c ↔ Cho mb Ls c := by
  have key : ∀ x : Int, 0 ≤ x → x < sn → inN (mn x) = true → ∀ v, Inl (rowg dy x) (mn x) v ↔ Inl (gd Ls x) (Ls x).length v := by
    intro x x0 x1 x2 v
    have hx := hl.2 x x0 x1 x2
    rw [hx.1]
    constructor
    · rintro ⟨j, j0, j1, j2⟩
      exact ⟨j, j0, j1, by rw [← j2]; exact (hx.2 j j0 j1).symm⟩
    · rintro ⟨j, j0, j1, j2⟩
      exact ⟨j, j0, j1, by rw [← j2]; exact hx.2 j j0 j1⟩
  constructor
  · intro h x hx
    obtain ⟨x0, x1, x2⟩ := (memM hl hsn).mp hx
    exact (key x x0 x1 x2 _).mp (h x x0 x1 x2)
  · intro h x x0 x1 x2
    exact (key x x0 x1 x2 _).mpr (h x ((memM hl hsn).mpr ⟨x0, x1, x2⟩))
theorem satM (hdn : 0 ≤ dn) (ham : am = (cnt (aNf mb fr t2) dn.toNat : Int)) (hak : AkOk (aNf mb fr t2) dn.toNat ak) {c : Int → Int} : Sat fr t2 fa ak (fun j_ => wbt ss (am - 1 - j_)) am c ↔ ∀ j, 0 ≤ j → j < dn → asked mb fr t2 j = true → decJ (aNf mb fr t2) dn.toNat ss j = false → c (t2 j) = c (fr j) + fa j := by
  have hd : ∀ j : Nat, j < dn.toNat → aNf mb fr t2 j = true → wbt ss (am - 1 - (cnt (aNf mb fr t2) j : Int)) = decJ (aNf mb fr t2) dn.toNat ss (j : Int) := by
    intro j hj ha
    have h1 := cnt_up (aNf mb fr t2) (a := j + 1) (b := dn.toNat) hj
    rw [cnt_s, ha] at h1
    simp only [if_true] at h1
    unfold wbt decJ
    rw [Int.toNat_natCast, ha, decide_eq_true (by omega), decide_eq_true (by omega), Bool.true_and, Bool.true_and, Bool.true_and]
    congr 1
    omega
  constructor
  · intro h j j0 j1 ja jd
    obtain ⟨n, rfl⟩ : ∃ n : Nat, j = (n : Int) := ⟨j.toNat, by omega⟩
    have h1 := cnt_up (aNf mb fr t2) (a := n + 1) (b := dn.toNat) (by omega)
    rw [cnt_s, show aNf mb fr t2 n = true from ja] at h1
    simp only [if_true] at h1
    have h2 := h (cnt (aNf mb fr t2) n : Int) (by omega) (by omega) (by show wbt ss (am - 1 - (cnt (aNf mb fr t2) n : Int)) = false; rw [hd n (by omega) ja]; exact jd)
    rw [hak n (by omega) ja] at h2
    exact h2
  · intro h k k0 k1 kw
    obtain ⟨n, n0, n1, n2⟩ := cnt_inv (p := aNf mb fr t2) (n := dn.toNat) (k := k.toNat) (by omega)
    have ek : k = (cnt (aNf mb fr t2) n : Int) := by omega
    have kw2 : wbt ss (am - 1 - k) = false := kw
    rw [ek, hd n n0 n1] at kw2
    rw [ek, hak n n0 n1]
    exact h n (by omega) (by omega) n1 kw2
theorem solM (hl : LsM sn mn dy mb Ls) (hsn : sn ≤ 30) (hdn : 0 ≤ dn) (ham : am = (cnt (aNf mb fr t2) dn.toNat : Int)) (hak : AkOk (aNf mb fr t2) dn.toNat ak) {c : Int → Int} : (ChoM sn mn dy c ∧ Sat fr t2 fa ak (fun j_ => wbt ss (am - 1 - j_)) am c) ↔ SolN mb Ls fr t2 fa dn (decJ (aNf mb fr t2) dn.toNat ss) c := by
  rw [choM hl hsn, satM hdn ham hak]
  rfl
theorem feaM (hl : LsM sn mn dy mb Ls) (hsn : sn ≤ 30) (hdn : 0 ≤ dn) (ham : am = (cnt (aNf mb fr t2) dn.toNat : Int)) (hak : AkOk (aNf mb fr t2) dn.toNat ak) : (∃ c, ChoM sn mn dy c ∧ Sat fr t2 fa ak (fun j_ => wbt ss (am - 1 - j_)) am c) ↔ Feas mb Ls fr t2 fa dn (decJ (aNf mb fr t2) dn.toNat ss) :=
  ⟨fun ⟨c, h⟩ => ⟨c, (solM hl hsn hdn ham hak).mp h⟩, fun ⟨c, h⟩ => ⟨c, (solM hl hsn hdn ham hak).mpr h⟩⟩
theorem admD (hdn : 0 ≤ dn) : Adm mb fr t2 dn (decJ (aNf mb fr t2) dn.toNat ss) := by
  intro j h
  unfold decJ at h
  rw [Bool.and_eq_true, Bool.and_eq_true, decide_eq_true_iff] at h
  refine ⟨h.1.1, by omega, ?_⟩
  have h2 := h.2.1
  unfold aNf at h2
  rw [Int.toNat_of_nonneg h.1.1] at h2
  exact h2
theorem popA {Wr : Int → Bool} (hdn : 0 ≤ dn ∧ dn ≤ 12) (ha : Adm mb fr t2 dn Wr) : pop Wr = (cnt (fun j => aNf mb fr t2 j && Wr (j : Int)) dn.toNat : Int) := by
  unfold pop
  rw [cnt_zero_tail (p := fun k => Wr (k : Int)) (m := dn.toNat) (fun k hk => by
    cases hw : Wr (k : Int) with
    | false => rfl
    | true => have := ha (k : Int) hw; omega) 12 (by omega)]
  congr 1
  refine cnt_cong (fun k hk => ?_)
  show Wr (k : Int) = (aNf mb fr t2 k && Wr (k : Int))
  cases hw : Wr (k : Int) with
  | false => rw [Bool.and_false]
  | true => rw [show aNf mb fr t2 k = true from (ha (k : Int) hw).2.2]; rfl
theorem bitsM (hdn : 0 ≤ dn ∧ dn ≤ 12) (hs : ss < 2 ^ cnt (aNf mb fr t2) dn.toNat) : (cnt ss.testBit 12 : Int) = pop (decJ (aNf mb fr t2) dn.toNat ss) := by
  rw [popA hdn (admD hdn.1), ← enc_pop _ _ dn.toNat 12 (by have := cnt_le (aNf mb fr t2) dn.toNat; omega), enc_dec_n hs]
theorem enc_inj {A V V' : Nat → Bool} : ∀ {d : Nat}, encJ A V d = encJ A V' d → ∀ j, j < d → A j = true → V j = V' j
  | 0, _, j, h, _ => absurd h (Nat.not_lt_zero _)
  | d + 1, e, j, h, hA => by
    unfold encJ at e
    by_cases q : j = d
    · subst q
      rw [hA] at e
      simp only [if_true] at e
      cases h1 : V j <;> cases h2 : V' j <;> rw [h1, h2] at e <;> simp at e <;> first | rfl | (exfalso; omega)
    · cases hd : A d with
      | false =>
        rw [hd] at e
        exact enc_inj (by simpa using e) j (by omega) hA
      | true =>
        rw [hd] at e
        simp only [if_true] at e
        refine enc_inj (d := d) ?_ j (by omega) hA
        cases h1 : V d <;> cases h2 : V' d <;> rw [h1, h2] at e <;> simp at e <;> omega
theorem eS_lt : eS mb fr t2 dn wg < 2 ^ cnt (aNf mb fr t2) dn.toNat := enc_lt _ _ _
theorem dec_eS (hdn : 0 ≤ dn) (ha : Adm mb fr t2 dn (wbt wg)) : decJ (aNf mb fr t2) dn.toNat (eS mb fr t2 dn wg) = wbt wg := by
  have h1 := enc_dec_n (A := aNf mb fr t2) (n := dn.toNat) (s := eS mb fr t2 dn wg) eS_lt
  have h2 := enc_inj (h1.trans (rfl : eS mb fr t2 dn wg = encJ (aNf mb fr t2) (fun j => wbt wg (j : Int)) dn.toNat))
  funext j
  cases hw : wbt wg j with
  | true =>
    have h3 := ha j hw
    have h4 := h2 j.toNat (by omega) (by unfold aNf; rw [Int.toNat_of_nonneg h3.1]; exact h3.2.2)
    rw [Int.toNat_of_nonneg h3.1] at h4
    rw [← hw]
    exact h4
  | false =>
    cases hd : decJ (aNf mb fr t2) dn.toNat (eS mb fr t2 dn wg) j with
    | false => rfl
    | true =>
      have h3 := admD (mb := mb) (fr := fr) (t2 := t2) hdn j hd
      have h4 := h2 j.toNat (by omega) (by unfold aNf; rw [Int.toNat_of_nonneg h3.1]; exact h3.2.2)
      rw [Int.toNat_of_nonneg h3.1] at h4
      have h5 : decJ (aNf mb fr t2) dn.toNat (eS mb fr t2 dn wg) j = wbt wg j := h4
      rw [hd, hw] at h5
      cases h5
theorem minM (hdn : 0 ≤ dn ∧ dn ≤ 12) (h : SvP mb Ls fr t2 fa dn few wg) (hs : ss < 2 ^ cnt (aNf mb fr t2) dn.toNat) (hf : Feas mb Ls fr t2 fa dn (decJ (aNf mb fr t2) dn.toNat ss)) : few ≤ (cnt ss.testBit 12 : Int) ∧ ((cnt ss.testBit 12 : Int) = few → eS mb fr t2 dn wg ≤ ss) := by
  have hm := h.2.2.2 _ (admD hdn.1) hf
  rw [bitsM hdn hs]
  refine ⟨hm.1, fun q => ?_⟩
  have he := enc_dec_n hs
  rcases hm.2 q with q | ⟨i, i0, i1, i2, i3⟩
  · have : eS mb fr t2 dn wg = ss := by
      rw [← he]
      unfold eS
      rw [q]
    omega
  · have h3 := admD (mb := mb) (fr := fr) (t2 := t2) hdn.1 i i3
    have h4 := enc_lex (A := aNf mb fr t2) (V := fun j => wbt wg (j : Int)) (V' := fun j => decJ (aNf mb fr t2) dn.toNat ss (j : Int)) (i := i.toNat) (by unfold aNf; rw [Int.toNat_of_nonneg i0]; exact h3.2.2) (fun j hj => i1 j (by omega)) (by rw [Int.toNat_of_nonneg i0]; exact i2) (by rw [Int.toNat_of_nonneg i0]; exact i3) (d := dn.toNat) (by omega)
    rw [he] at h4
    exact Nat.le_of_lt h4
theorem bits_eS (hdn : 0 ≤ dn ∧ dn ≤ 12) (h : SvP mb Ls fr t2 fa dn few wg) : (cnt (eS mb fr t2 dn wg).testBit 12 : Int) = few := by
  rw [bitsM hdn eS_lt, dec_eS hdn.1 h.1.1, ← h.2.1]
theorem few_le (hdn : 0 ≤ dn ∧ dn ≤ 12) (h : SvP mb Ls fr t2 fa dn few wg) : 0 ≤ few ∧ few ≤ (cnt (aNf mb fr t2) dn.toNat : Int) := by
  rw [h.2.1, popA hdn h.1.1]
  have := cnt_mono (p := fun j => aNf mb fr t2 j && wbt wg (j : Int)) (q := aNf mb fr t2) (fun k q => by rw [Bool.and_eq_true] at q; exact q.1) (n := dn.toNat)
  omega
end SolM
theorem sh1 : ∀ i : Nat, i < 13 → iz 1 <<< (iz (i : Int) &&& 31) = iz ((2 ^ i : Nat) : Int) := by decide +kernel
theorem sh1z {i : Int} (h : 0 ≤ i ∧ i ≤ 12) : iz 1 <<< (iz i &&& 31) = iz ((2 ^ i.toNat : Nat) : Int) := by
  have := sh1 i.toNat (by omega)
  rwa [Int.toNat_of_nonneg h.1] at this
/-- a day that a stone can have where the wrong distances are left out -/
def VSn (mb : Int → Option Nat) (Ls : Int → List Int) (fr t2 fa : Int → Int) (dn : Int) (wg : Nat) (q v : Int) : Prop := ∃ c, SolN mb Ls fr t2 fa dn (wbt wg) c ∧ c q = v
/-- the flags of the settled days -/
def SeOk (sn : Int) (mn dy : Int → Int) (mb : Int → Option Nat) (Ls : Int → List Int) (fr t2 fa : Int → Int) (dn : Int) (wg : Nat) (se : Int → Bool) (q k : Int) : Prop := se (300 * q + k) = true ↔ (inN (mn q) = true ∧ k < mn q ∧ VSn mb Ls fr t2 fa dn wg q (dy (300 * q + k)))
def MSol (sn : Int) (mn dy : Int → Int) (mb : Int → Option Nat) (Ls : Int → List Int) (fr t2 fa : Int → Int) (dn : Int) (wg : Nat) (am wr : Int) (ak : Int → Int) (se : Int → Bool) : Prop := am = (cnt (aNf mb fr t2) dn.toNat : Int) ∧ AkOk (aNf mb fr t2) dn.toNat ak ∧ wr = (eS mb fr t2 dn wg : Int) ∧ ∀ q : Int, 0 ≤ q → q < sn → ∀ k : Int, 0 ≤ k → k < 300 → SeOk sn mn dy mb Ls fr t2 fa dn wg se q k
