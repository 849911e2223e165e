
theorem isD_uniq {g : Int → Int} {n d v w : Int} (h1 : isD g n d v) (h2 : isD g n d w) : v = w := by
  obtain ⟨⟨k, k0, k1, hk⟩, hv⟩ := h1
  obtain ⟨⟨j, j0, j1, hj⟩, hw⟩ := h2
  have a := hv j j0 j1
  have b := hw k k0 k1
  omega
theorem iabs_le {z B : Int} : iabs z ≤ B ↔ -B ≤ z ∧ z ≤ B := by
  rcases iabs_cases z with ⟨h, e⟩ | ⟨h, e⟩ <;> omega
theorem ds_le {g : Int → Int} {n d v B : Int} (h : isD g n d v) {k : Int} (k0 : 0 ≤ k) (k1 : k < n) (hk : -B ≤ d - g k ∧ d - g k ≤ B) : v ≤ B := by
  have h1 := h.2 k k0 k1
  have h2 := iabs_le.mpr hk
  omega
theorem ds_at {g : Int → Int} {n d v : Int} (h : isD g n d v) : ∃ k : Int, 0 ≤ k ∧ k < n ∧ ((d - g k = v ∧ 0 ≤ v) ∨ (d - g k = -v ∧ 0 ≤ v)) := by
  obtain ⟨⟨k, k0, k1, hk⟩, -⟩ := h
  refine ⟨k, k0, k1, ?_⟩
  rcases iabs_cases (d - g k) with ⟨h, e⟩ | ⟨h, e⟩
  · left; omega
  · right; omega
theorem sF_same {f g : Nat → Int} {n : Nat} (hle : ∀ k, k < n → f k ≤ g k) (he : sF g n ≤ sF f n) : ∀ k, k < n → f k = g k := by
  intro q hq
  have h1 := sF_add (f := fun k => g k - f k) (g := f) n
  have h2 : sF (fun k => (g k - f k) + f k) n = sF g n := sF_cong (fun k _ => by omega)
  rw [h2] at h1
  have h3 := sF_part (f := fun k => g k - f k) hq (fun k hk => by have := hle k hk; omega)
  have h4 := hle q hq
  have h5 : g q - f q ≤ sF (fun k => g k - f k) n := h3
  omega
/-- the best start is one of the candidates -/
theorem opt_cand {g ds : Int → Int} {n nr ba bs : Int} {nd : List Int} (hds : ∀ z : Int, isD g n z (ds z)) (hnr : 0 ≤ nr) (h : Opt ds nr nd ba bs) : ∃ j : Nat, j < nd.length ∧ ∃ k : Int, 0 ≤ k ∧ k < n ∧ (bs = g k - nd.getD j 0 ∨ bs = g k - nd.getD j 0 - nr ∨ bs = g k - nd.getD j 0 + nr ∨ bs = g k - nd.getD j 0 + nr + 1) := by
  refine Classical.byContradiction (fun hn => ?_)
  have hC : ∀ j : Nat, j < nd.length → ∀ k : Int, 0 ≤ k → k < n → bs ≠ g k - nd.getD j 0 ∧ bs ≠ g k - nd.getD j 0 - nr ∧ bs ≠ g k - nd.getD j 0 + nr ∧ bs ≠ g k - nd.getD j 0 + nr + 1 := by
    intro j hj k k0 k1
    refine ⟨fun q => hn ⟨j, hj, k, k0, k1, Or.inl q⟩, fun q => hn ⟨j, hj, k, k0, k1, Or.inr (Or.inl q)⟩, fun q => hn ⟨j, hj, k, k0, k1, Or.inr (Or.inr (Or.inl q))⟩, fun q => hn ⟨j, hj, k, k0, k1, Or.inr (Or.inr (Or.inr q))⟩⟩
  have e1 : ∀ d : Int, d + (bs - 1) = d + bs - 1 := fun d => by omega
  have e2 : ∀ d : Int, d + (bs + 1) = d + bs + 1 := fun d => by omega
  have L1 : ∀ j : Nat, j < nd.length → ds (nd.getD j 0 + bs) ≤ nr → ds (nd.getD j 0 + (bs - 1)) ≤ nr := fun j hj hle => by
    obtain ⟨k, k0, k1, hk⟩ := ds_at (hds (nd.getD j 0 + bs))
    have hc := hC j hj k k0 k1
    exact ds_le (hds _) k0 k1 (by omega)
  have L2 : ∀ j : Nat, j < nd.length → ds (nd.getD j 0 + (bs - 1)) ≤ nr → ds (nd.getD j 0 + bs) ≤ nr := fun j hj hle => by
    obtain ⟨k, k0, k1, hk⟩ := ds_at (hds (nd.getD j 0 + (bs - 1)))
    have hc := hC j hj k k0 k1
    exact ds_le (hds _) k0 k1 (by omega)
  have L3 : ∀ j : Nat, j < nd.length → ds (nd.getD j 0 + bs) ≤ nr → ds (nd.getD j 0 + (bs + 1)) ≤ nr := fun j hj hle => by
    obtain ⟨k, k0, k1, hk⟩ := ds_at (hds (nd.getD j 0 + bs))
    have hc := hC j hj k k0 k1
    exact ds_le (hds _) k0 k1 (by omega)
  have L4 : ∀ j : Nat, j < nd.length → ds (nd.getD j 0 + (bs + 1)) + ds (nd.getD j 0 + (bs - 1)) ≤ ds (nd.getD j 0 + bs) + ds (nd.getD j 0 + bs) := fun j hj => by
    obtain ⟨k, k0, k1, hk⟩ := ds_at (hds (nd.getD j 0 + bs))
    have hc := hC j hj k k0 k1
    rcases hk with hk | hk
    · have a := ds_le (B := ds (nd.getD j 0 + bs) + 1) (hds (nd.getD j 0 + (bs + 1))) k0 k1 (by omega)
      have b := ds_le (B := ds (nd.getD j 0 + bs) - 1) (hds (nd.getD j 0 + (bs - 1))) k0 k1 (by omega)
      omega
    · have a := ds_le (B := ds (nd.getD j 0 + bs) - 1) (hds (nd.getD j 0 + (bs + 1))) k0 k1 (by omega)
      have b := ds_le (B := ds (nd.getD j 0 + bs) + 1) (hds (nd.getD j 0 + (bs - 1))) k0 k1 (by omega)
      omega
  obtain ⟨hba, hag, hopt⟩ := h
  have f1 : agF ds nr nd (bs - 1) = ba := by
    rw [← hag]
    refine sF_cong (fun j hj => ?_)
    by_cases q : ds (nd.getD j 0 + bs) ≤ nr
    · rw [if_pos q, if_pos (L1 j hj q)]
    · rw [if_neg q, if_neg (fun q2 => q (L2 j hj q2))]
  have hle2 : ∀ j, j < nd.length → (if ds (nd.getD j 0 + bs) ≤ nr then (1 : Int) else 0) ≤ (if ds (nd.getD j 0 + (bs + 1)) ≤ nr then 1 else 0) := fun j hj => by
    by_cases q : ds (nd.getD j 0 + bs) ≤ nr
    · rw [if_pos q, if_pos (L3 j hj q)]; exact Int.le_refl _
    · rw [if_neg q]; split <;> omega
  have f2 : agF ds nr nd bs ≤ agF ds nr nd (bs + 1) := sF_le hle2
  have o1 := hopt (bs - 1)
  have o2 := hopt (bs + 1)
  have f3 : agF ds nr nd (bs + 1) ≤ agF ds nr nd bs := by omega
  have f4 := sF_same hle2 f3
  have g1 : smF ds nr nd (bs + 1) + smF ds nr nd (bs - 1) ≤ smF ds nr nd bs + smF ds nr nd bs := by
    unfold smF
    rw [← sF_add, ← sF_add]
    refine sF_le (fun j hj => ?_)
    have q4 := L4 j hj
    have q5 := f4 j hj
    by_cases q : ds (nd.getD j 0 + bs) ≤ nr
    · rw [if_pos q, if_pos (L1 j hj q), if_pos (L3 j hj q)]
      exact q4
    · have q6 : ¬ ds (nd.getD j 0 + (bs + 1)) ≤ nr := fun q7 => by rw [if_neg q, if_pos q7] at q5; omega
      rw [if_neg q, if_neg q6, if_neg (fun q2 => q (L2 j hj q2))]
      exact Int.le_refl _
  omega
theorem agF_app {ds : Int → Int} {nr X d : Int} (L : List Int) : agF ds nr (L ++ [d]) X = agF ds nr L X + (if ds (d + X) ≤ nr then 1 else 0) ∧ smF ds nr (L ++ [d]) X = smF ds nr L X + (if ds (d + X) ≤ nr then ds (d + X) else 0) := by
  have hl : (L ++ [d]).length = L.length + 1 := by simp
  have ha : ∀ k, k < L.length → (L ++ [d]).getD k 0 = L.getD k 0 := fun k hk => by simp [List.getD, List.getElem?_append_left hk]
  have hb : (L ++ [d]).getD L.length 0 = d := by simp [List.getD]
  unfold agF smF
  rw [hl]
  refine ⟨?_, ?_⟩
  · show sF _ L.length + (if ds ((L ++ [d]).getD L.length 0 + X) ≤ nr then (1 : Int) else 0) = _
    rw [hb, sF_cong (f := fun k => if ds ((L ++ [d]).getD k 0 + X) ≤ nr then (1 : Int) else 0) (g := fun k => if ds (L.getD k 0 + X) ≤ nr then 1 else 0) (fun k hk => by rw [ha k hk])]
  · show sF _ L.length + (if ds ((L ++ [d]).getD L.length 0 + X) ≤ nr then ds ((L ++ [d]).getD L.length 0 + X) else 0) = _
    rw [hb, sF_cong (f := fun k => if ds ((L ++ [d]).getD k 0 + X) ≤ nr then ds ((L ++ [d]).getD k 0 + X) else 0) (g := fun k => if ds (L.getD k 0 + X) ≤ nr then ds (L.getD k 0 + X) else 0) (fun k hk => by rw [ha k hk])]
theorem agF_rng {g ds : Int → Int} {n nr X : Int} {L : List Int} (hds : ∀ z : Int, isD g n z (ds z)) : 0 ≤ agF ds nr L X ∧ 0 ≤ smF ds nr L X ∧ (agF ds nr L X = 0 → smF ds nr L X = 0) := by
  have hd : ∀ z, 0 ≤ ds z := fun z => by
    obtain ⟨k, -, -, hk⟩ := ds_at (hds z)
    omega
  refine ⟨?_, ?_, fun h => ?_⟩
  · have h1 := sF_le (f := fun _ => 0) (g := fun k => if ds (L.getD k 0 + X) ≤ nr then (1 : Int) else 0) (n := L.length) (fun k _ => by split <;> omega)
    rw [sF_zero (fun _ _ => rfl)] at h1
    exact h1
  · have h1 := sF_le (f := fun _ => 0) (g := fun k => if ds (L.getD k 0 + X) ≤ nr then ds (L.getD k 0 + X) else 0) (n := L.length) (fun k _ => by have := hd (L.getD k 0 + X); split <;> omega)
    rw [sF_zero (fun _ _ => rfl)] at h1
    exact h1
  · refine sF_zero (fun k hk => ?_)
    have h1 := sF_part (f := fun k => if ds (L.getD k 0 + X) ≤ nr then (1 : Int) else 0) hk (fun k _ => by split <;> omega)
    have h2 : (if ds (L.getD k 0 + X) ≤ nr then (1 : Int) else 0) ≤ 0 := Int.le_trans h1 (Int.le_of_eq h)
    by_cases q : ds (L.getD k 0 + X) ≤ nr
    · rw [if_pos q] at h2; omega
    · rw [if_neg q]
theorem nl_mem {nm : Int → Bool} {dO : Int → Int} : ∀ (N j : Nat), j < (nl nm dO N).length → ∃ s : Int, 0 ≤ s ∧ s < N ∧ nm s = true ∧ (nl nm dO N).getD j 0 = dO s
  | 0, j, h => absurd h (Nat.not_lt_zero _)
  | N + 1, j, h => by
    by_cases hj : j < (nl nm dO N).length
    · obtain ⟨s, s0, s1, s2, s3⟩ := nl_mem N j hj
      refine ⟨s, s0, by omega, s2, ?_⟩
      rw [← s3]
      show (nl nm dO N ++ _).getD j 0 = _
      simp [List.getD, List.getElem?_append_left hj]
    · have h9 : j < (nl nm dO N ++ (if nm (N : Int) then [dO (N : Int)] else [])).length := h
      show ∃ s : Int, _ ∧ _ ∧ _ ∧ (nl nm dO N ++ (if nm (N : Int) then [dO (N : Int)] else [])).getD j 0 = dO s
      cases hN : nm (N : Int) with
      | false => rw [hN] at h9; simp at h9; omega
      | true =>
        rw [hN] at h9
        rw [if_pos rfl] at h9 ⊢
        rw [List.length_append] at h9
        have : j = (nl nm dO N).length := by simp at h9; omega
        subst this
        exact ⟨(N : Int), by omega, by omega, hN, by simp [List.getD]⟩
/-- the best of the tried -/
def Tb (f g : Int → Int) (P : Int → Prop) (bs bm sm : Int) : Prop := ((∀ X, ¬ P X) ∧ bm = 0 ∧ sm = 0 ∧ bs = 2147483647) ∨ (P bs ∧ bm = f bs ∧ sm = g bs ∧ ∀ X, P X → Gd f g bs X)
def BET (f g : Int → Int) (X bs bm sm : Int) : Prop := bm < f X ∨ (f X = bm ∧ (g X < sm ∨ (g X = sm ∧ X < bs)))
theorem Tb_yes {f g : Int → Int} {P : Int → Prop} {X bs bm sm : Int} (h : Tb f g P bs bm sm) (hb : BET f g X bs bm sm) : Tb f g (fun Y => P Y ∨ Y = X) X (f X) (g X) := by
  refine Or.inr ⟨Or.inr rfl, rfl, rfl, fun Y hY => ?_⟩
  rcases h with ⟨h0, -⟩ | ⟨h1, h2, h3, h4⟩
  · rcases hY with hY | rfl
    · exact absurd hY (h0 Y)
    · unfold Gd; omega
  · rcases hY with hY | rfl
    · have q := h4 Y hY
      unfold Gd at *
      unfold BET at hb
      omega
    · unfold Gd; omega
theorem Tb_no {f g : Int → Int} {P : Int → Prop} {X bs bm sm : Int} (h : Tb f g P bs bm sm) (hb : ¬ BET f g X bs bm sm) (h0 : 0 ≤ f X) (h1 : f X = 0 → g X = 0) (hX : X < 2147483647) : Tb f g (fun Y => P Y ∨ Y = X) bs bm sm := by
  rcases h with ⟨q0, q1, q2, q3⟩ | ⟨q1, q2, q3, q4⟩
  · exfalso
    apply hb
    unfold BET
    by_cases z : f X = 0
    · have := h1 z
      omega
    · omega
  · refine Or.inr ⟨Or.inl q1, q2, q3, fun Y hY => ?_⟩
    rcases hY with hY | rfl
    · exact q4 Y hY
    · unfold Gd
      unfold BET at hb
      omega
theorem Tb_opt {ds : Int → Int} {nr ba bs b m s : Int} {nd : List Int} {P : Int → Prop} (h : Opt ds nr nd ba bs) (ht : Tb (agF ds nr nd) (smF ds nr nd) P b m s) (hP : P bs) : m = ba ∧ b = bs := by
  obtain ⟨h1, h2, h3⟩ := h
  rcases ht with ⟨q0, -⟩ | ⟨q1, q2, q3, q4⟩
  · exact absurd hP (q0 bs)
  · have a := q4 bs hP
    have c := h3 b
    unfold Gd at a
    omega
