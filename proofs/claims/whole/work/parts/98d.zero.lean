
section Zero
variable {M : Nat → Int → Int}
theorem no_mem {x : Int} : ¬ Mem (fun _ => none) x := fun z => by have := z.2.2; cases this
theorem row_zero (h0 : ∀ j : Int, 0 ≤ j → j < 30 → M 0 j = j) (h13 : ∀ j : Int, M 13 j = 0) {Wr : Int → Bool} : RowOk (fun _ => none) (fun _ => []) (fun _ => 0) M 0 (SolN (fun _ => none) (fun _ => []) (fun _ => 0) (fun _ => 0) (fun _ => 0) 0 Wr) := by
  refine ⟨fun x x0 x1 => ?_, fun x hx => (no_mem hx).elim, fun x hx => (no_mem hx).elim, fun c => ⟨fun _ => ⟨fun x y hx => (no_mem hx).elim, fun x hx => (no_mem hx).elim⟩, fun _ => ⟨fun x hx => (no_mem hx).elim, fun j j0 j1 => by omega⟩⟩, fun x x0 x1 _ => h0 x x0 x1⟩
  have e := h0 x x0 x1
  show 0 ≤ M 0 x ∧ M 0 x < 30 + 0 ∧ (M 0 x < 30 → M 0 x = x ∧ M 13 x = 0)
  rw [e]
  exact ⟨x0, by omega, fun _ => ⟨rfl, h13 x⟩⟩
theorem sv_zero (h0 : ∀ j : Int, 0 ≤ j → j < 30 → M 0 j = j) (h13 : ∀ j : Int, M 13 j = 0) : Sv (fun _ => none) (fun _ => []) (fun _ => 0) (fun _ => 0) (fun _ => 0) 0 0 0 (fun _ => 0) M := by
  have hw : ∀ Wr : Int → Bool, Adm (fun _ => none) (fun _ => 0) (fun _ => 0) 0 Wr → Wr = wbt 0 := by
    intro Wr h
    funext j
    rw [wbt_0]
    cases q : Wr j with
    | false => rfl
    | true => have := h j q; omega
  have hp : pop (wbt 0) = 0 := by decide
  refine ⟨⟨fun j hj => ?_, fun _ => 0, fun x hx => (no_mem hx).elim, fun j j0 j1 => by omega⟩, hp.symm, by decide, fun Wr h _ => ?_, row_zero h0 h13⟩
  · rw [wbt_0] at hj; cases hj
  · exact ⟨(pop_0 Wr).1, fun _ => Or.inl (hw Wr h)⟩
theorem LTown0 : LTown 0 (fun _ => 0) := ⟨by omega, fun i h0 h1 => by omega⟩
theorem LTape0 : LTape 0 (fun _ => 0) (fun _ => 0) := ⟨by omega, fun _ => ⟨Int.le_refl _, (by decide : (0 : Int) ≤ 255)⟩, fun _ => (by decide : (0 : Int32) &&& iz 255 = iz 0)⟩
theorem LStn0 {lo hi : Int → Int64} {so : Int → Nat} {sb to dy : Int → Int} {sts : Int → Int → Int32} {fs : Int → SS} : LStn 0 0 (fun _ => 0) (fun _ => none) so sb (fun _ => 0) sts (fun _ => []) fs lo hi to dy := ⟨by omega, fun j h0 h1 => by omega, fun j hj => ⟨rfl, rfl, rfl⟩, fun j hj => ⟨rfl, rfl⟩⟩
theorem LNet0 {so : Int → Nat} (h0 : ∀ j : Int, 0 ≤ j → j < 30 → M 0 j = j) (h13 : ∀ j : Int, M 13 j = 0) : LNet 0 (fun _ => 0) so (fun _ => none) (fun _ => []) (fun _ => 0) (fun _ => 0) (fun _ => 0) 0 0 0 0 0 (fun _ => 0) M :=
  ⟨fun j h0 h1 => (if_neg (fun z => by omega)).symm, by omega, fun j h0 h1 => by omega, rfl, by omega, row_zero h0 h13, fun _ => sv_zero h0 h13⟩
theorem nl_nil0 {dO : Int → Int} : ∀ n : Nat, nl (fun _ => false) dO n = []
  | 0 => rfl
  | n + 1 => by
    unfold nl
    rw [nl_nil0 n]
    rfl
theorem LSky0 {mm dy ec dO : Int → Int} : LSky 0 mm dy 0 0 (-1) 0 0 0 ec (fun _ => false) dO ec :=
  ⟨by omega, fun i h0 h1 => by omega, fun i j h0 h1 h2 => by omega, fun z => Iff.rfl, fun i h0 h1 => by omega, fun j hj => Bool.noConfusion hj, by rw [nl_nil0]; rfl, ⟨by decide, by decide⟩, fun ds nr _ q1 => by omega⟩
theorem tail0 {G : GG} {so ss sd : Int → Nat} {sb mm : Int → Int} {sts : Int → Int → Int32} {Ls : Int → List Int} {a r : va_W} : a ++ (r ++ stW G so ss sd sb mm sts Ls (0 : Int).toNat) = a ++ r := by
  show a ++ (r ++ []) = _
  rw [List.append_nil]
theorem tail0_P {G : GG} {D : va_G} {cl : List vw_C} {H : Heap} {a r : va_W} (so ss sd : Int → Nat) (sb mm : Int → Int) (sts : Int → Int → Int32) (Ls : Int → List Int) (h : va_P D cl (a ++ r) H) : va_P D cl (a ++ (r ++ stW G so ss sd sb mm sts Ls (0 : Int).toNat)) H := by
  rw [tail0]
  exact h
theorem tail0_D {G : GG} {A : Nat → Prop} {a r : va_W} (so ss sd : Int → Nat) (sb mm : Int → Int) (sts : Int → Int → Int32) (Ls : Int → List Int) (h : va_D A (a ++ r)) : va_D A (a ++ (r ++ stW G so ss sd sb mm sts Ls (0 : Int).toNat)) := by
  rw [tail0]
  exact h
end Zero
