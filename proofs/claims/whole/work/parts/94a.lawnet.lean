
section LawNet
variable {sc : Int} {mm : Int → Int} {so : Int → Nat} {mb : Int → Option Nat} {Ls : Int → List Int} {fF tT dD js jo : Int → Int} {size mcn few slv : Int} {wg : Nat} {M Mo : Nat → Int → Int} {dy : Int → Int}
theorem row0_cong {fF' tT' dD' : Int → Int} (h : RowOk mb Ls js M 0 (SolN mb Ls fF tT dD 0 (wbt 0))) : RowOk mb Ls js M 0 (SolN mb Ls fF' tT' dD' 0 (wbt 0)) :=
  row_iff h (fun c => ⟨fun q => ⟨q.1, fun j q1 q2 => absurd q2 (by omega)⟩, fun q => ⟨q.1, fun j q1 q2 => absurd q2 (by omega)⟩⟩)
theorem row0_M {S : (Int → Int) → Prop} (hf : FrM 0 M Mo js jo) (h : RowOk mb Ls js M 0 S) : RowOk mb Ls jo Mo 0 S := by
  have e0 : Mo ((0 : Int) + 0).toNat = M ((0 : Int) + 0).toNat := hf.1 0 (by decide)
  have e13 : Mo ((0 : Int) + 13).toNat = M ((0 : Int) + 13).toNat := hf.2.1 13 (by decide) (by decide)
  have hsz : ∀ x, 0 ≤ x → x < 30 → szX jo Ls (M ((0 : Int) + 0).toNat x) = szX js Ls (M ((0 : Int) + 0).toNat x) ∧ dlX Mo Ls (M ((0 : Int) + 0).toNat x) = dlX M Ls (M ((0 : Int) + 0).toNat x) := by
    intro x h0 h1
    have := h.1 x h0 h1
    have hlt : ¬ 30 ≤ M ((0 : Int) + 0).toNat x := by omega
    refine ⟨?_, ?_⟩
    · unfold szX; rw [if_neg hlt, if_neg hlt]
    · funext j; unfold dlX; rw [if_neg hlt, if_neg hlt]
  obtain ⟨r1, r2, r3, r4, r5⟩ := h
  unfold RowOk
  rw [e0, e13]
  refine ⟨r1, fun x hx => ?_, r3, fun c => ?_, r5⟩
  · rw [(hsz x hx.1 hx.2.1).1, (hsz x hx.1 hx.2.1).2]
    exact r2 x hx
  · rw [r4 c]
    refine ⟨fun q => ⟨q.1, fun x hx => ?_⟩, fun q => ⟨q.1, fun x hx => ?_⟩⟩
    · rw [(hsz x hx.1 hx.2.1).1, (hsz x hx.1 hx.2.1).2]; exact q.2 x hx
    · have := q.2 x hx
      rw [(hsz x hx.1 hx.2.1).1, (hsz x hx.1 hx.2.1).2] at this
      exact this
theorem LNet_solved {f2 : Int} {w2 : Nat} (h : LNet sc mm so mb Ls fF tT dD size mcn few wg slv js M) (hs : Sv mb Ls fF tT dD size f2 w2 jo Mo) (hf : FrM 0 M Mo js jo) : LNet sc mm so mb Ls fF tT dD size mcn f2 w2 size jo Mo :=
  ⟨h.1, h.2.1, h.2.2.1, h.2.2.2.1, by have := h.2.1; omega, row0_M hf h.2.2.2.2.2.1, fun _ => hs⟩
theorem LNet_add {x y k : Int} (h : LNet sc mm so mb Ls fF tT dD size mcn few wg slv js M) (h12 : size < 12) (hx : 0 ≤ x ∧ x < sc) (hy : 0 ≤ y ∧ y < sc) (hk : -500000 ≤ k ∧ k ≤ 500000) : LNet sc mm so mb Ls (us fF size x) (us tT size y) (us dD size k) (size + 1) mcn few wg slv js M := by
  have h5 := h.2.2.2.2.1
  have h2 := h.2.1
  refine ⟨h.1, by omega, fun j h0 h1 => ?_, h.2.2.2.1, by omega, row0_cong h.2.2.2.2.2.1, fun q => absurd q (by omega)⟩
  unfold us
  by_cases q : j = size
  · rw [if_pos q, if_pos q, if_pos q]; exact ⟨hx, hy, hk⟩
  · rw [if_neg q, if_neg q, if_neg q]; exact h.2.2.1 j h0 (by omega)
theorem LMod_ms {iso : Bool} {am wr : Int} {ak : Int → Int} {se : Int → Bool} {f2 : Int} {w2 : Nat} (h : LMod sc size mm dy mb Ls fF tT dD iso am wr ak se) (hs : SvP mb Ls fF tT dD size f2 w2) : iso = true → MSol sc mm dy mb Ls fF tT dD size w2 am wr ak se := by
  intro q
  obtain ⟨f0, w0, a1, a2⟩ := h q
  rw [(Sv_uniq hs a1).2]
  exact a2
theorem at_uniq {k r1 r2 : Int} {w : Nat} (h1 : (0 ≤ r1 ∧ r1 < size ∧ wbt w r1 = true ∧ cb w r1 = k) ∨ (r1 = -1 ∧ ∀ j : Int, 0 ≤ j → j < size → wbt w j = true → cb w j ≠ k)) (h2 : (0 ≤ r2 ∧ r2 < size ∧ wbt w r2 = true ∧ cb w r2 = k) ∨ (r2 = -1 ∧ ∀ j : Int, 0 ≤ j → j < size → wbt w j = true → cb w j ≠ k)) : r1 = r2 := by
  have key : ∀ a b : Int, 0 ≤ a → a < b → wbt w a = true → cb w a = k → cb w b = k → False := fun a b a0 ab ha h3 h4 => by
    have e := cb_s (w := w) a0
    rw [ha] at e
    have e2 := cb_le (w := w) (i := a + 1) (j := b) (by omega) (by omega)
    have e3 : bz true = 1 := rfl
    omega
  rcases h1 with ⟨a1, a2, a3, a4⟩ | ⟨a1, a2⟩
  · rcases h2 with ⟨b1, b2, b3, b4⟩ | ⟨b1, b2⟩
    · rcases Int.lt_trichotomy r1 r2 with q | q | q
      · exact (key r1 r2 a1 q a3 a4 b4).elim
      · exact q
      · exact (key r2 r1 b1 q b3 b4 a4).elim
    · exact absurd a4 (b2 r1 a1 a2 a3)
  · rcases h2 with ⟨b1, b2, b3, b4⟩ | ⟨b1, b2⟩
    · exact absurd b4 (a2 r2 b1 b2 b3)
    · omega
theorem few_rng {f2 : Int} {w2 : Nat} (h : SvP mb Ls fF tT dD size f2 w2) : 0 ≤ f2 ∧ f2 ≤ 12 := by
  rw [h.2.1]
  unfold pop
  have := cnt_le (fun k => wbt w2 (k : Int)) 12
  omega
theorem cnt_in {n : Nat} {p : Nat → Bool} (h : n ≤ 30) : (cnt p n : Int) ≤ 30 := by
  have := cnt_le p n
  omega
end LawNet
