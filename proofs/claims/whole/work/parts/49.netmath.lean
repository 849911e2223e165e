section Rows1
variable {mb : Int → Option Nat} {Ls : Int → List Int} {js jo : Int → Int} {M Mo : Nat → Int → Int} {i : Int} {S : (Int → Int) → Prop} {fF tT dD : Int → Int}
/-- two groups joined: abstractly -/
theorem row_join {fs sc ap n : Int} {rr g o g' o' : Int → Int} {dl : Int → Int → Int} {sz : Int → Int} {c : Int → Int} {a b : Int}
    (hne : fs ≠ sc) (hf : Mem mb a) (ht : Mem mb b) (ga : g a = fs) (gb : g b = sc) (hlt : ∀ x, Mem mb x → g x < 30 + i) (hin : ∀ v, Inl rr n v ↔ (Inl (dl fs) (sz fs) v ∧ Inl (dl sc) (sz sc) (v + ap)))
    (hg : ∀ x, Mem mb x → g' x = if g x = fs ∨ g x = sc then 30 + i else g x) (ho : ∀ x, Mem mb x → o' x = o x + if g x = sc then ap else 0) (d : Int) (hap : ap = d + o a - o b) :
    (((∀ x y, Mem mb x → Mem mb y → g x = g y → c x - o x = c y - o y) ∧ ∀ x, Mem mb x → Inl (dl (g x)) (sz (g x)) (c x - o x)) ∧ c b = c a + d) ↔
    ((∀ x y, Mem mb x → Mem mb y → g' x = g' y → c x - o' x = c y - o' y) ∧ ∀ x, Mem mb x → Inl (if g' x = 30 + i then rr else dl (g' x)) (if g' x = 30 + i then n else sz (g' x)) (c x - o' x)) := by
  have oa : o' a = o a := by rw [ho a hf, if_neg (by omega)]; omega
  have ob : o' b = o b + ap := by rw [ho b ht, if_pos gb]
  have g'a : g' a = 30 + i := by rw [hg a hf, if_pos (Or.inl ga)]
  have g'b : g' b = 30 + i := by rw [hg b ht, if_pos (Or.inr gb)]
  have g'n : ∀ x, Mem mb x → g x ≠ fs → g x ≠ sc → g' x = g x ∧ o' x = o x ∧ g' x ≠ 30 + i := by
    intro x hx h1 h2
    have h3 : g' x = g x := by rw [hg x hx, if_neg (fun q => q.elim h1 h2)]
    have h4 : o' x = o x := by rw [ho x hx, if_neg h2]; omega
    have := hlt x hx
    exact ⟨h3, h4, by omega⟩
  constructor
  · rintro ⟨⟨h1, h2⟩, h3⟩
    have key : ∀ x, Mem mb x → g' x = 30 + i → c x - o' x = c a - o a := by
      intro x hx he
      by_cases e1 : g x = fs
      · have := h1 x a hx hf (e1.trans ga.symm)
        rw [ho x hx, if_neg (by omega)]
        omega
      · by_cases e2 : g x = sc
        · have := h1 x b hx ht (e2.trans gb.symm)
          rw [ho x hx, if_pos e2]
          omega
        · exact absurd he (g'n x hx e1 e2).2.2
    refine ⟨fun x y hx hy he => ?_, fun x hx => ?_⟩
    · by_cases e1 : g' x = 30 + i
      · rw [key x hx e1, key y hy (he ▸ e1)]
      · have nx : g x ≠ fs ∧ g x ≠ sc := ⟨fun q => e1 (by rw [hg x hx, if_pos (Or.inl q)]), fun q => e1 (by rw [hg x hx, if_pos (Or.inr q)])⟩
        have e2 : g' y ≠ 30 + i := by rw [← he]; exact e1
        have ny : g y ≠ fs ∧ g y ≠ sc := ⟨fun q => e2 (by rw [hg y hy, if_pos (Or.inl q)]), fun q => e2 (by rw [hg y hy, if_pos (Or.inr q)])⟩
        have qx := g'n x hx nx.1 nx.2
        have qy := g'n y hy ny.1 ny.2
        rw [qx.2.1, qy.2.1]
        exact h1 x y hx hy (by rw [← qx.1, ← qy.1]; exact he)
    · by_cases e1 : g' x = 30 + i
      · rw [if_pos e1, if_pos e1, key x hx e1]
        refine (hin _).2 ⟨?_, ?_⟩
        · have := h2 a hf
          rw [ga] at this
          exact this
        · have := h2 b ht
          rw [gb] at this
          rw [show c a - o a + ap = c b - o b from by omega]
          exact this
      · have nx : g x ≠ fs ∧ g x ≠ sc := ⟨fun q => e1 (by rw [hg x hx, if_pos (Or.inl q)]), fun q => e1 (by rw [hg x hx, if_pos (Or.inr q)])⟩
        have qx := g'n x hx nx.1 nx.2
        rw [if_neg e1, if_neg e1, qx.1, qx.2.1]
        exact h2 x hx
  · rintro ⟨h1, h2⟩
    have hab := h1 a b hf ht (g'a.trans g'b.symm)
    have hra := h2 a hf
    rw [if_pos g'a, if_pos g'a, oa] at hra
    have hr2 := (hin _).1 hra
    have k1 : ∀ x, Mem mb x → g x = fs → o' x = o x ∧ c x - o x = c a - o a := by
      intro x hx e1
      have h3 : o' x = o x := by rw [ho x hx, if_neg (by omega)]; omega
      have h4 := h1 x a hx hf (by rw [g'a, hg x hx, if_pos (Or.inl e1)])
      exact ⟨h3, by omega⟩
    have k2 : ∀ x, Mem mb x → g x = sc → o' x = o x + ap ∧ c x - o x = c a - o a + ap := by
      intro x hx e1
      have h3 : o' x = o x + ap := by rw [ho x hx, if_pos e1]
      have h4 := h1 x a hx hf (by rw [g'a, hg x hx, if_pos (Or.inr e1)])
      exact ⟨h3, by omega⟩
    refine ⟨⟨fun x y hx hy he => ?_, fun x hx => ?_⟩, by omega⟩
    · by_cases e1 : g x = fs
      · have := k1 x hx e1
        have := k1 y hy (he ▸ e1)
        omega
      · by_cases e2 : g x = sc
        · have := k2 x hx e2
          have := k2 y hy (he ▸ e2)
          omega
        · have qx := g'n x hx e1 e2
          have qy := g'n y hy (he ▸ e1) (he ▸ e2)
          have := h1 x y hx hy (by rw [qx.1, qy.1]; exact he)
          rw [qx.2.1, qy.2.1] at this
          exact this
    · by_cases e1 : g x = fs
      · rw [e1, (k1 x hx e1).2]
        exact hr2.1
      · by_cases e2 : g x = sc
        · rw [e2, (k2 x hx e2).2]
          exact hr2.2
        · have qx := g'n x hx e1 e2
          have := h2 x hx
          rw [if_neg qx.2.2, if_neg qx.2.2, qx.1, qx.2.1] at this
          exact this
theorem jp_1 (hi : 0 ≤ i ∧ i < 12) (h : RowOk mb Ls js M i S) (hf : Mem mb (fF i)) (ht : Mem mb (tT i)) (h0 : JP Ls M Mo js jo i (M (i + 0).toNat (fF i)) (M (i + 0).toNat (tT i)) (dD i + M (i + 13).toNat (fF i) - M (i + 13).toNat (tT i)) 1) : RowOk mb Ls jo Mo (i + 1) (fun c => S c ∧ c (tT i) = c (fF i) + dD i) := by
  rcases h0 with ⟨hb, _⟩ | ⟨hb, _⟩ | ⟨_, hne, rr, n, hn, hm, hin, hjo, hJI⟩
  · omega
  · omega
  · have eg : um M (i + 26).toNat rr (i + 0).toNat = M (i + 0).toNat := um_ne (by omega)
    have eo : um M (i + 26).toNat rr (i + 13).toNat = M (i + 13).toNat := um_ne (by omega)
    have hrow := hJI.2.1
    rw [eg, eo] at hrow
    have hg : ∀ x, 0 ≤ x → x < 30 → Mo (i + 1 + 0).toNat x = if M (i + 0).toNat x = M (i + 0).toNat (fF i) ∨ M (i + 0).toNat x = M (i + 0).toNat (tT i) then 30 + i else M (i + 0).toNat x := fun x q1 q2 => (hrow x q1 q2).1
    have ho : ∀ x, 0 ≤ x → x < 30 → Mo (i + 1 + 13).toNat x = M (i + 13).toNat x + if M (i + 0).toNat x = M (i + 0).toNat (tT i) then dD i + M (i + 13).toNat (fF i) - M (i + 13).toNat (tT i) else 0 := fun x q1 q2 => (hrow x q1 q2).2
    have hd : ∀ v, v < 30 + i → dlX Mo Ls v = dlX M Ls v := fun v hv => dl_eq hv (fun k q1 q2 => by rw [hJI.1 k (by omega) (by omega), um_ne (by omega)])
    have hd1 : dlX Mo Ls (30 + i) = rr := by
      funext j
      unfold dlX
      rw [if_pos (by omega), show (30 + i - 30 + 26).toNat = (i + 26).toNat from by omega, hJI.1 _ (by omega) (by omega), um_at]
    have hz : ∀ v, v < 30 + i → szX jo Ls v = szX js Ls v := fun v hv => sz_eq hv (fun j hj => by rw [hjo, us_ne (by omega)])
    have hz1 : szX jo Ls (30 + i) = n := by
      unfold szX
      rw [if_pos (by omega), show 30 + i - 30 = i from by omega, hjo, us_at]
    obtain ⟨h1, h2, h3, h4, h5⟩ := h
    have hdl : ∀ x, Mem mb x → dlX Mo Ls (Mo (i + 1 + 0).toNat x) = if Mo (i + 1 + 0).toNat x = 30 + i then rr else dlX M Ls (Mo (i + 1 + 0).toNat x) := by
      intro x hx
      by_cases e1 : Mo (i + 1 + 0).toNat x = 30 + i
      · rw [if_pos e1, e1, hd1]
      · rw [if_neg e1]
        have b := h1 x hx.1 hx.2.1
        have q := hg x hx.1 hx.2.1
        refine hd _ ?_
        rw [q] at e1 ⊢
        split at e1
        · exact absurd rfl e1
        · next q9 => rw [if_neg q9]; exact b.2.1
    have hsz : ∀ x, Mem mb x → szX jo Ls (Mo (i + 1 + 0).toNat x) = if Mo (i + 1 + 0).toNat x = 30 + i then n else szX js Ls (Mo (i + 1 + 0).toNat x) := by
      intro x hx
      by_cases e1 : Mo (i + 1 + 0).toNat x = 30 + i
      · rw [if_pos e1, e1, hz1]
      · rw [if_neg e1]
        have b := h1 x hx.1 hx.2.1
        have q := hg x hx.1 hx.2.1
        refine hz _ ?_
        rw [q] at e1 ⊢
        split at e1
        · exact absurd rfl e1
        · next q9 => rw [if_neg q9]; exact b.2.1
    refine ⟨fun x q1 q2 => ?_, fun x hx => ?_, fun x hx => ?_, fun c => ?_, fun x q1 q2 q3 => ?_⟩
    · have b := h1 x q1 q2
      rw [hg x q1 q2, ho x q1 q2]
      split
      · next q => exact ⟨by omega, by omega, fun q9 => absurd q9 (by omega)⟩
      · next q =>
        refine ⟨b.1, by omega, fun q9 => ?_⟩
        rw [if_neg (fun z => q (Or.inr z))]
        have := b.2.2 q9
        omega
    · rw [hdl x hx, hsz x hx]
      by_cases e1 : Mo (i + 1 + 0).toNat x = 30 + i
      · rw [if_pos e1, if_pos e1]
        exact ⟨by omega, hm⟩
      · rw [if_neg e1, if_neg e1]
        have q := hg x hx.1 hx.2.1
        rw [q] at e1 ⊢
        split at e1
        · exact absurd rfl e1
        · next q9 => rw [if_neg q9]; exact h2 x hx
    · by_cases e1 : M (i + 0).toNat x = M (i + 0).toNat (fF i) ∨ M (i + 0).toNat x = M (i + 0).toNat (tT i)
      · obtain ⟨r, q1, q2, q3⟩ := h3 _ hf
        refine ⟨r, q1, ?_, ?_⟩
        · rw [hg r q1.1 q1.2.1, if_pos (Or.inl q2), hg x hx.1 hx.2.1, if_pos e1]
        · rw [ho r q1.1 q1.2.1, if_neg (by omega)]
          omega
      · obtain ⟨r, q1, q2, q3⟩ := h3 x hx
        refine ⟨r, q1, ?_, ?_⟩
        · rw [hg r q1.1 q1.2.1, hg x hx.1 hx.2.1, q2]
        · rw [ho r q1.1 q1.2.1, if_neg (fun q => e1 (Or.inr (q2 ▸ q)))]
          omega
    · show (S c ∧ c (tT i) = c (fF i) + dD i) ↔ _
      rw [h4 c]
      have key := row_join (mb := mb) (i := i) (c := c) (dl := dlX M Ls) (sz := szX js Ls) hne hf ht rfl rfl (fun x hx => (h1 x hx.1 hx.2.1).2.1) hin (g' := Mo (i + 1 + 0).toNat) (o' := Mo (i + 1 + 13).toNat) (fun x hx => hg x hx.1 hx.2.1) (fun x hx => ho x hx.1 hx.2.1) (dD i) rfl
      rw [key]
      constructor
      · rintro ⟨q1, q2⟩
        exact ⟨q1, fun x hx => by rw [hdl x hx, hsz x hx]; exact q2 x hx⟩
      · rintro ⟨q1, q2⟩
        exact ⟨q1, fun x hx => by have := q2 x hx; rw [hdl x hx, hsz x hx] at this; exact this⟩
    · have b := h5 x q1 q2 q3
      have hn2 : ∀ y, Mem mb y → M (i + 0).toNat x ≠ M (i + 0).toNat y := by
        intro y hy he
        have by_ := (h1 y hy.1 hy.2.1).2.2 (by omega)
        have : x = y := by omega
        subst this
        exact q3 hy
      rw [hg x q1 q2, if_neg (fun q => q.elim (hn2 _ hf) (hn2 _ ht))]
      exact b
end Rows1
