/-! arrays: the contents count inside alone; new arrays of a known class; shifts and masks of numbers -/
theorem arrV_cong {cA : ClassId} {n : Nat} {f g : Nat → Value} (h : ∀ k, k < n → f k = g k) : arrV cA n f = arrV cA n g := by
  unfold arrV
  have e : (Array.ofFn (n := n) fun j => f j.val) = Array.ofFn (n := n) fun j => g j.val := by
    congr 1
    funext j
    exact h j.val j.isLt
  rw [e]
theorem cell_z {cA : ClassId} {n : Nat} {g h : Int → Int} (e : ∀ k : Int, 0 ≤ k → k < n → g k = h k) : vp_cell cA (n, .inl (av g)) = vp_cell cA (n, .inl (av h)) := by
  rw [vp_cell_i, vp_cell_i]
  exact arrV_cong (fun k hk => by unfold av; rw [e k (by omega) (by omega)])
theorem cell_i {cA : ClassId} {n : Nat} {g h : Int → Int32} (e : ∀ k : Int, 0 ≤ k → k < n → g k = h k) : vp_cell cA (n, .inl (rv g)) = vp_cell cA (n, .inl (rv h)) := by
  rw [vp_cell_i, vp_cell_i]
  exact arrV_cong (fun k hk => by unfold rv; rw [e k (by omega) (by omega)])
theorem cell_b {cA : ClassId} {n : Nat} {g h : Int → Bool} (e : ∀ k : Int, 0 ≤ k → k < n → g k = h k) : vp_cell cA (n, .inl (bv g)) = vp_cell cA (n, .inl (bv h)) := by
  rw [vp_cell_i, vp_cell_i]
  exact arrV_cong (fun k hk => by unfold bv; rw [e k (by omega) (by omega)])
theorem cell_l {cA : ClassId} {n : Nat} {g h : Int → Int64} (e : ∀ k : Int, 0 ≤ k → k < n → g k = h k) : vp_cell cA (n, .inr (.inl (rv g))) = vp_cell cA (n, .inr (.inl (rv h))) := by
  rw [vp_cell_l, vp_cell_l]
  exact arrV_cong (fun k hk => by unfold rv; rw [e k (by omega) (by omega)])
theorem cell_q {cA : ClassId} {n : Nat} {g h : Int → Option Nat} (e : ∀ k : Int, 0 ≤ k → k < n → g k = h k) : vp_cell cA (n, .inr (.inr (.inr (.inr (rv g))))) = vp_cell cA (n, .inr (.inr (.inr (.inr (rv h))))) := by
  rw [vp_cell_q, vp_cell_q]
  exact arrV_cong (fun k hk => by unfold rv; rw [e k (by omega) (by omega)])
theorem cong_P {D : va_G} {cl : List vw_C} {ws : va_W} {H : Heap} {A : Nat → Prop} {q a : Nat} {cA : ClassId} {x y : vp_A} (hP : va_P D cl ws H) (hD : va_D A ws) (hq : ws[q]? = some (a, .inl (cA, x))) (h : vp_cell cA x = vp_cell cA y) : va_P D cl (ws.set q (a, .inl (cA, y))) H := by
  refine hP.set hD hq ?_ (fun _ _ => rfl)
  have := hP q _ hq
  show H[a]? = some (vp_cell cA y)
  rw [← h]
  exact this
theorem shr_amt : ∀ k : Nat, k < 32 → ((iz (k : Int) &&& 31).toBitVec.smod 32).toNat = k := by decide
theorem iz_shr {z : Int} (h0 : 0 ≤ z) (h1 : z < 2147483648) (k : Nat) (hk : k < 32) : iz z >>> (iz (k : Int) &&& 31) = iz (z / 2 ^ k) := by
  apply Int32.toInt_inj.mp
  have hp : (0 : Int) < 2 ^ k := Int.pow_pos (by decide)
  have h3 : z / 2 ^ k ≤ z := Int.ediv_le_self _ h0
  have h4 : 0 ≤ z / 2 ^ k := Int.ediv_nonneg h0 (by omega)
  rw [pk_shr _ _ k (shr_amt k hk), iz_toInt ⟨by omega, h1⟩, iz_toInt ⟨by omega, by omega⟩, Int.shiftRight_eq_div_pow]
  rfl
theorem iz_mask {z : Int} (h0 : 0 ≤ z) (h1 : z < 2147483648) (k : Nat) (hk : k < 31) : iz z &&& iz (2 ^ k - 1) = iz (z % 2 ^ k) := by
  obtain ⟨n, rfl⟩ : ∃ n : Nat, z = n := ⟨z.toNat, by omega⟩
  have e1 : iz (n : Int) = nI n := rfl
  have hp : (2 : Int) ^ k - 1 = ((2 ^ k - 1 : Nat) : Int) := by
    have : 0 < 2 ^ k := Nat.pow_pos (by decide)
    rw [Int.natCast_sub (by omega)]
    simp
  have e2 : iz (2 ^ k - 1) = nI (2 ^ k - 1) := by rw [hp]; rfl
  have e3 : (n : Int) % 2 ^ k = ((n % 2 ^ k : Nat) : Int) := by simp
  rw [e1, e2, e3]
  have hb : 2 ^ k ≤ 2 ^ 30 := Nat.pow_le_pow_right (by decide) (by omega)
  exact pk_andN (by omega) k (by rw [pk_tn (by omega)])
section NewA
variable {p : Program} {l : Launch} {e : Env} {R : Room} {s : State} {m : MethodId} {args : Array Value} {below : List Frame} {meth : Method} {c : Code} {H : Heap} {locs : List Loc} {cells slots : Nat} {Q : State → Prop}
variable {cc : ByteArray} {pc : Nat} {ls : Array Slot} {rest : List Value} {D : va_G} {cl : List vw_C} {A : Nat → Prop} {a : Nat} {ws : va_W} {H0 : Heap}
theorem zk_newa (hexec : p.tables.exec = Jvm.exec) (hb : c.code = cc) {atype : ArrayType} (harr : (Cond.arrayClass (newarray.typeOf atype)).before args s = true) {ty : FieldType} {cA : ClassId} (hty : newarray.typeOf atype = ty) (hf : s.vm.findClass ("[" ++ ty.toString) = some cA) (hP : va_P D cl ws H) (hD : va_D A ws) (hS : va_S A H0 H locs) (hA : ∀ q, H0.size ≤ q → A q)
    {z : Int} {N : Nat} {a0 : vp_A} (ha : vp_cell cA a0 = arrV cA N (fun _ => defaultValue ty)) (h0 : 0 ≤ z) (h1 : z < 2147483648) (hN : z.toNat = N) (hbytes : N * componentBytes ty ≤ 536870912) (hcells : cells + 1 ≤ R.cells) (hslots : slots + N ≤ R.slots) (hdg : decode cc pc = .ok (.newarray atype, 2))
    (kk : ∀ (q : Nat) (H1 : Heap), va_P D cl (ws ++ [(q, .inl (cA, a0))]) H1 → va_D A (ws ++ [(q, .inl (cA, a0))]) → va_S A H0 H1 locs →
      W p l e R s m args below meth c H1 locs (cells + 1) (slots + N) Q (F0 m (pc + 2) ls (.ref q :: rest))) : W p l e R s m args below meth c H locs cells slots Q (F0 m pc ls (.int (iz z) :: rest)) := by
  subst hty
  have hn : ¬ iz z < 0 := by
    have e0 : (0 : Int32) = iz 0 := rfl
    rw [e0, iz_lt ⟨by omega, h1⟩ ⟨by omega, by omega⟩]
    omega
  refine va_newaK hexec hb harr rfl hdg rfl hn ((iz_cl ⟨h0, h1⟩).trans hN) hbytes hcells hslots rfl fun H1 cB e1 z1 o1 hAr hNm => ?_
  cases hf.symm.trans hNm
  have hk : ∀ (k : Nat) (x : Nat × va_E), ws[k]? = some x → H1[x.1]? = H[x.1]? := fun k x hx => o1 x.1 ((hP k x hx).lt)
  refine kk H.size H1 ((hP.kept hk).app (fun k x hx => ?_)) (hD.push hP rfl (hA _ hS.1)) ⟨Nat.le_trans hS.1 (by omega), fun x h1 h2 => (o1 x (Nat.lt_of_lt_of_le h1 hS.1)).trans (hS.2.1 x h1 h2), hS.2.2⟩
  match k, hx with
  | 0, hx =>
    cases hx
    show H1[H.size]? = some (vp_cell cA a0)
    rw [ha]
    exact e1
  | k + 1, hx => simp at hx
end NewA
