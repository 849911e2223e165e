/-! the net: choices of days, rows, the least set of wrong ones -/
def gd (Ls : Int → List Int) (x : Int) : Int → Int := fun j => (Ls x).getD j.toNat 0
def Mem (mb : Int → Option Nat) (x : Int) : Prop := 0 ≤ x ∧ x < 30 ∧ (mb x).isSome = true
def Cho (mb : Int → Option Nat) (Ls : Int → List Int) (c : Int → Int) : Prop := ∀ x, Mem mb x → Inl (gd Ls x) (Ls x).length (c x)
def LOk (mb : Int → Option Nat) (Ls : Int → List Int) : Prop := ∀ x, Mem mb x → (1 ≤ (Ls x).length ∧ (Ls x).length ≤ 300) ∧ Mono (gd Ls x) (Ls x).length ∧ ∀ v, Inl (gd Ls x) (Ls x).length v → 0 ≤ v ∧ v < 4000000
def asked (mb : Int → Option Nat) (fF tT : Int → Int) (i : Int) : Bool := (mb (fF i)).isSome && (mb (tT i)).isSome
def SolN (mb : Int → Option Nat) (Ls : Int → List Int) (fF tT dD : Int → Int) (i : Int) (Wr : Int → Bool) (c : Int → Int) : Prop := Cho mb Ls c ∧ ∀ j, 0 ≤ j → j < i → asked mb fF tT j = true → Wr j = false → c (tT j) = c (fF j) + dD j
/-- row i stands for the choices S -/
def RowOk (mb : Int → Option Nat) (Ls : Int → List Int) (js : Int → Int) (M : Nat → Int → Int) (i : Int) (S : (Int → Int) → Prop) : Prop :=
  (∀ x, 0 ≤ x → x < 30 → 0 ≤ M (i + 0).toNat x ∧ M (i + 0).toNat x < 30 + i ∧ (M (i + 0).toNat x < 30 → M (i + 0).toNat x = x ∧ M (i + 13).toNat x = 0)) ∧
  (∀ x, Mem mb x → (1 ≤ szX js Ls (M (i + 0).toNat x) ∧ szX js Ls (M (i + 0).toNat x) ≤ 300) ∧ Mono (dlX M Ls (M (i + 0).toNat x)) (szX js Ls (M (i + 0).toNat x))) ∧
  (∀ x, Mem mb x → ∃ r, Mem mb r ∧ M (i + 0).toNat r = M (i + 0).toNat x ∧ M (i + 13).toNat r = 0) ∧
  (∀ c, S c ↔ (∀ x y, Mem mb x → Mem mb y → M (i + 0).toNat x = M (i + 0).toNat y → c x - M (i + 13).toNat x = c y - M (i + 13).toNat y) ∧ ∀ x, Mem mb x → Inl (dlX M Ls (M (i + 0).toNat x)) (szX js Ls (M (i + 0).toNat x)) (c x - M (i + 13).toNat x)) ∧
  (∀ x, 0 ≤ x → x < 30 → ¬ Mem mb x → M (i + 0).toNat x = x)
section Rows
variable {mb : Int → Option Nat} {Ls : Int → List Int} {js jo : Int → Int} {M Mo : Nat → Int → Int} {i : Int} {S : (Int → Int) → Prop}
theorem row_sol (h : RowOk mb Ls js M i S) (v : Int → Int) (hv : ∀ x, Mem mb x → Inl (dlX M Ls (M (i + 0).toNat x)) (szX js Ls (M (i + 0).toNat x)) (v (M (i + 0).toNat x))) : S (fun x => v (M (i + 0).toNat x) + M (i + 13).toNat x) := by
  refine (h.2.2.2.1 _).2 ⟨fun x y hx hy he => ?_, fun x hx => ?_⟩
  · show v _ + _ - _ = v _ + _ - _
    rw [he]
    omega
  · have := hv x hx
    show Inl _ _ (v _ + _ - _)
    rw [show v (M (i + 0).toNat x) + M (i + 13).toNat x - M (i + 13).toNat x = v (M (i + 0).toNat x) from by omega]
    exact this
theorem row_first (h : RowOk mb Ls js M i S) {x : Int} (hx : Mem mb x) : Inl (dlX M Ls (M (i + 0).toNat x)) (szX js Ls (M (i + 0).toNat x)) (dlX M Ls (M (i + 0).toNat x) 0) :=
  ⟨0, by omega, by have := (h.2.1 x hx).1.1; omega, rfl⟩
theorem row_ex (h : RowOk mb Ls js M i S) : ∃ c, S c := ⟨_, row_sol h (fun q => dlX M Ls q 0) (fun _ hx => row_first h hx)⟩
theorem row_val (h : RowOk mb Ls js M i S) {x : Int} (hx : Mem mb x) {v : Int} (hv : Inl (dlX M Ls (M (i + 0).toNat x)) (szX js Ls (M (i + 0).toNat x)) v) : ∃ c, S c ∧ ∀ y, M (i + 0).toNat y = M (i + 0).toNat x → c y = v + M (i + 13).toNat y := by
  refine ⟨_, row_sol h (fun q => if q = M (i + 0).toNat x then v else dlX M Ls q 0) (fun y hy => ?_), fun y hy => ?_⟩
  · show Inl _ _ (if _ then _ else _)
    by_cases e1 : M (i + 0).toNat y = M (i + 0).toNat x
    · rw [if_pos e1, e1]
      exact hv
    · rw [if_neg e1]
      exact row_first h hy
  · show (if _ then _ else _) + _ = _
    rw [if_pos hy]
theorem row_bound (hL : LOk mb Ls) (hc : ∀ c, S c → Cho mb Ls c) (h : RowOk mb Ls js M i S) {x : Int} (hx : Mem mb x) {v : Int} (hv : Inl (dlX M Ls (M (i + 0).toNat x)) (szX js Ls (M (i + 0).toNat x)) v) : (0 ≤ v ∧ v < 4000000) ∧ Inl (gd Ls x) (Ls x).length (v + M (i + 13).toNat x) := by
  obtain ⟨c, h1, h2⟩ := row_val h hx hv
  obtain ⟨r, q1, q2, q3⟩ := h.2.2.1 x hx
  have h3 := (hL r q1).2.2 _ (hc c h1 r q1)
  rw [h2 r q2, q3] at h3
  have h4 := hc c h1 x hx
  rw [h2 x rfl] at h4
  exact ⟨by omega, h4⟩
theorem row_off (hL : LOk mb Ls) (hc : ∀ c, S c → Cho mb Ls c) (h : RowOk mb Ls js M i S) {x : Int} (hx : Mem mb x) : -9000000 < M (i + 13).toNat x ∧ M (i + 13).toNat x < 9000000 := by
  have h1 := row_bound hL hc h hx (row_first h hx)
  have h2 := (hL x hx).2.2 _ h1.2
  omega
theorem row_dok (hi : 0 ≤ i ∧ i ≤ 12) (hL : LOk mb Ls) (hc : ∀ c, S c → Cho mb Ls c) (h : RowOk mb Ls js M i S) {x : Int} (hx : Mem mb x) : DOk mb js M Ls (M (i + 0).toNat x) := by
  have h1 := h.1 x hx.1 hx.2.1
  have h2 := h.2.1 x hx
  refine ⟨⟨h1.1, by omega, fun q => ?_⟩, ⟨by omega, h2.1.2⟩, h2.2, fun j q1 q2 => ?_⟩
  · rw [(h1.2.2 q).1]
    exact Option.isSome_iff_exists.1 hx.2.2
  · have := (row_bound hL hc h hx ⟨j, q1, q2, rfl⟩).1
    omega
/-- rows that agree -/
theorem row_congr (hi : 0 ≤ i) (h : RowOk mb Ls js M i S) (hg : ∀ x, 0 ≤ x → x < 30 → Mo (i + 0).toNat x = M (i + 0).toNat x) (ho : ∀ x, 0 ≤ x → x < 30 → Mo (i + 13).toNat x = M (i + 13).toNat x) (hd : ∀ v, v < 30 + i → dlX Mo Ls v = dlX M Ls v) (hz : ∀ v, v < 30 + i → szX jo Ls v = szX js Ls v) : RowOk mb Ls jo Mo i S := by
  obtain ⟨h1, h2, h3, h4, h5⟩ := h
  refine ⟨fun x q1 q2 => ?_, fun x hx => ?_, fun x hx => ?_, fun c => ?_, fun x q1 q2 q3 => ?_⟩
  · rw [hg x q1 q2, ho x q1 q2]
    exact h1 x q1 q2
  · have b := h1 x hx.1 hx.2.1
    rw [hg x hx.1 hx.2.1, hd _ b.2.1, hz _ b.2.1]
    exact h2 x hx
  · obtain ⟨r, q1, q2, q3⟩ := h3 x hx
    refine ⟨r, q1, ?_, ?_⟩
    · rw [hg r q1.1 q1.2.1, hg x hx.1 hx.2.1]
      exact q2
    · rw [ho r q1.1 q1.2.1]
      exact q3
  · rw [h4 c]
    constructor
    · rintro ⟨q1, q2⟩
      refine ⟨fun x y hx hy he => ?_, fun x hx => ?_⟩
      · rw [hg x hx.1 hx.2.1, hg y hy.1 hy.2.1] at he
        rw [ho x hx.1 hx.2.1, ho y hy.1 hy.2.1]
        exact q1 x y hx hy he
      · have b := h1 x hx.1 hx.2.1
        rw [hg x hx.1 hx.2.1, ho x hx.1 hx.2.1, hd _ b.2.1, hz _ b.2.1]
        exact q2 x hx
    · rintro ⟨q1, q2⟩
      refine ⟨fun x y hx hy he => ?_, fun x hx => ?_⟩
      · have := q1 x y hx hy (by rw [hg x hx.1 hx.2.1, hg y hy.1 hy.2.1]; exact he)
        rw [ho x hx.1 hx.2.1, ho y hy.1 hy.2.1] at this
        exact this
      · have b := h1 x hx.1 hx.2.1
        have := q2 x hx
        rw [hg x hx.1 hx.2.1, ho x hx.1 hx.2.1, hd _ b.2.1, hz _ b.2.1] at this
        exact this
  · rw [hg x q1 q2]
    exact h5 x q1 q2 q3
/-- the same choices, one row later -/
theorem row_next (hi : 0 ≤ i) (h : RowOk mb Ls js M i S) (hg : ∀ x, 0 ≤ x → x < 30 → Mo (i + 1 + 0).toNat x = M (i + 0).toNat x) (ho : ∀ x, 0 ≤ x → x < 30 → Mo (i + 1 + 13).toNat x = M (i + 13).toNat x) (hd : ∀ v, v < 30 + i → dlX Mo Ls v = dlX M Ls v) (hz : ∀ v, v < 30 + i → szX jo Ls v = szX js Ls v) : RowOk mb Ls jo Mo (i + 1) S := by
  obtain ⟨h1, h2, h3, h4, h5⟩ := h
  refine ⟨fun x q1 q2 => ?_, fun x hx => ?_, fun x hx => ?_, fun c => ?_, fun x q1 q2 q3 => ?_⟩
  · rw [hg x q1 q2, ho x q1 q2]
    have := h1 x q1 q2
    exact ⟨this.1, by omega, this.2.2⟩
  · have b := h1 x hx.1 hx.2.1
    rw [hg x hx.1 hx.2.1, hd _ b.2.1, hz _ b.2.1]
    exact h2 x hx
  · obtain ⟨r, q1, q2, q3⟩ := h3 x hx
    refine ⟨r, q1, ?_, ?_⟩
    · rw [hg r q1.1 q1.2.1, hg x hx.1 hx.2.1]
      exact q2
    · rw [ho r q1.1 q1.2.1]
      exact q3
  · rw [h4 c]
    constructor
    · rintro ⟨q1, q2⟩
      refine ⟨fun x y hx hy he => ?_, fun x hx => ?_⟩
      · rw [hg x hx.1 hx.2.1, hg y hy.1 hy.2.1] at he
        rw [ho x hx.1 hx.2.1, ho y hy.1 hy.2.1]
        exact q1 x y hx hy he
      · have b := h1 x hx.1 hx.2.1
        rw [hg x hx.1 hx.2.1, ho x hx.1 hx.2.1, hd _ b.2.1, hz _ b.2.1]
        exact q2 x hx
    · rintro ⟨q1, q2⟩
      refine ⟨fun x y hx hy he => ?_, fun x hx => ?_⟩
      · have := q1 x y hx hy (by rw [hg x hx.1 hx.2.1, hg y hy.1 hy.2.1]; exact he)
        rw [ho x hx.1 hx.2.1, ho y hy.1 hy.2.1] at this
        exact this
      · have b := h1 x hx.1 hx.2.1
        have := q2 x hx
        rw [hg x hx.1 hx.2.1, ho x hx.1 hx.2.1, hd _ b.2.1, hz _ b.2.1] at this
        exact this
  · rw [hg x q1 q2]
    exact h5 x q1 q2 q3
theorem dl_eq {v : Int} (hv : v < 30 + i) (hM : ∀ k : Nat, 26 ≤ k → k < (i + 26).toNat → Mo k = M k) : dlX Mo Ls v = dlX M Ls v := by
  funext j
  unfold dlX
  by_cases hc : 30 ≤ v
  · rw [if_pos hc, if_pos hc, hM _ (by omega) (by omega)]
  · rw [if_neg hc, if_neg hc]
theorem sz_eq {v : Int} (hv : v < 30 + i) (hM : ∀ j : Int, j < i → jo j = js j) : szX jo Ls v = szX js Ls v := by
  unfold szX
  by_cases hc : 30 ≤ v
  · rw [if_pos hc, if_pos hc, hM _ (by omega)]
  · rw [if_neg hc, if_neg hc]
theorem row_pass (hi : 0 ≤ i ∧ i < 12) (h : RowOk mb Ls js M i S) : RowOk mb Ls js (psM M i) (i + 1) S :=
  row_next hi.1 h (fun x q1 q2 => ps_g hi.1 ⟨q1, q2⟩) (fun x q1 q2 => ps_o hi.1 ⟨q1, q2⟩) (fun v hv => dl_eq hv (fun k q1 q2 => ps_ne (by omega) (by omega))) (fun v _ => rfl)
variable {fF tT dD : Int → Int}
/-- what a join's answer says of the choices -/
theorem jp_0 {a fs sc : Int} (h : RowOk mb Ls js M i S) (hf : Mem mb (fF i)) (ht : Mem mb (tT i)) (h0 : JP Ls M Mo js jo i (M (i + 0).toNat (fF i)) (M (i + 0).toNat (tT i)) (dD i + M (i + 13).toNat (fF i) - M (i + 13).toNat (tT i)) 0) (c : Int → Int) (hc : S c) : c (tT i) ≠ c (fF i) + dD i := by
  intro he
  obtain ⟨q1, q2⟩ := (h.2.2.2.1 c).1 hc
  rcases h0 with ⟨_, h1, _, _⟩ | ⟨hb, _⟩ | ⟨hb, _⟩
  · rcases h1 with ⟨h2, h3⟩ | ⟨h2, h3⟩
    · have := q1 _ _ hf ht h2
      omega
    · refine h3 (c (fF i) - M (i + 13).toNat (fF i)) ⟨q2 _ hf, ?_⟩
      have := q2 _ ht
      rw [show c (tT i) - M (i + 13).toNat (tT i) = c (fF i) - M (i + 13).toNat (fF i) + (dD i + M (i + 13).toNat (fF i) - M (i + 13).toNat (tT i)) from by omega] at this
      exact this
  · omega
  · omega
theorem jp_2 (hi : 0 ≤ i ∧ i < 12) (h : RowOk mb Ls js M i S) (hf : Mem mb (fF i)) (ht : Mem mb (tT i)) (h0 : JP Ls M Mo js jo i (M (i + 0).toNat (fF i)) (M (i + 0).toNat (tT i)) (dD i + M (i + 13).toNat (fF i) - M (i + 13).toNat (tT i)) 2) : RowOk mb Ls jo Mo (i + 1) S ∧ ∀ c, S c → c (tT i) = c (fF i) + dD i := by
  rcases h0 with ⟨hb, _⟩ | ⟨_, h1, h2, h3, h4⟩ | ⟨hb, _⟩
  · omega
  · subst h3
    subst h4
    refine ⟨row_pass hi h, fun c hc => ?_⟩
    have := ((h.2.2.2.1 c).1 hc).1 _ _ hf ht h1
    omega
  · omega
end Rows
