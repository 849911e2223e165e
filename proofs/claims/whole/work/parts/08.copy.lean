/-! System.arraycopy among rows of numbers -/
def cpz (f g : Int → Int) (sp dp n : Int) : Int → Int := fun k => if dp ≤ k ∧ k < dp + n then f (sp + (k - dp)) else g k
theorem cpz_eq {f g : Int → Int} {sp dp n : Int} (h1 : 0 ≤ sp) (h2 : 0 ≤ dp) (h3 : 0 ≤ n) : va_cpy (av f) (av g) sp.toNat dp.toNat n.toNat = av (cpz f g sp dp n) := by
  funext k
  unfold va_cpy av cpz
  by_cases h : dp ≤ (k : Int) ∧ (k : Int) < dp + n
  · rw [if_pos h, if_pos (by omega)]
    congr 2
    omega
  · rw [if_neg h, if_neg (by omega)]
section CopyZ
variable {p : Program} {l : Launch} {e : Env} {R : Room} {s : State} {m : MethodId} {args : Array Value} {below : List Frame} {meth : Method} {c : Code} {H : Heap} {locs : List Loc} {cells slots : Nat} {Q : State → Prop}
variable {cc : ByteArray} {pc : Nat} {ls : Array Slot} {rest : List Value} {D : va_G} {cl : List vw_C} {A : Nat → Prop} {a : Nat} {tys : List (ClassId × FieldType)} {ws : va_W} {H0 : Heap}
theorem zk_copy (hexec : p.tables.exec = Jvm.exec) (hb : c.code = cc) (hml : c.maxLocals = ls.size) {own : String} {index : Nat} (hown : s.vm.findClass own = some m.cls) (hlink : (Cond.methodLink own index arraycopyName).before args s = true) (hnat : (Cond.native arraycopyName).before args s = true) (hstat : (Cond.static arraycopyName).before args s = true) (hini : (Cond.initialized "java/lang/System").before args s = true)
    (hK : va_K D cl tys s) (hP : va_P D cl ws H) (hD : va_D A ws) (hS : va_S A H0 H locs) (q0 q1 t0 t1 : Nat) {a0 : Nat} {c0 c1 : ClassId} {n0 n1 : Nat} {f g : Int → Int} (ha0 : ws[q0]? = some (a0, .inl (c0, n0, .inl (av f)))) (ha1 : ws[q1]? = some (a, .inl (c1, n1, .inl (av g)))) (ht0 : tys[t0]? = some (c0, .int)) (ht1 : tys[t1]? = some (c1, .int))
    {sp dp n : Int} (h1 : 0 ≤ sp) (h2 : 0 ≤ dp) (h3 : 0 ≤ n) (h4 : sp + n ≤ n0) (h5 : dp + n ≤ n1) (hn0 : n0 < 2147483648) (hn1 : n1 < 2147483648)
    (hframes : 1 ≤ R.frames) (hlocals : (rest.map fun v => v.category).sum + (nativeFrameWords "java/lang/System" "arraycopy" 5 + 11) ≤ R.locals) (hdg : decode cc pc = .ok (.invokestatic index, 3))
    (kk : ∀ (H1 : Heap) (locs1 : List Loc), va_P D cl (ws.set q1 (a, .inl (c1, n1, .inl (av (cpz f g sp dp n))))) H1 → va_D A (ws.set q1 (a, .inl (c1, n1, .inl (av (cpz f g sp dp n))))) → va_S A H0 H1 locs1 → W p l e R s m args below meth c H1 locs1 cells slots Q (F0 m (pc + 3) ls rest)) : W p l e R s m args below meth c H locs cells slots Q (F0 m pc ls (.int (iz n) :: .int (iz dp) :: .ref a :: .int (iz sp) :: .ref a0 :: rest)) := by
  have e1 : (iz sp).toNatClampNeg = sp.toNat := iz_cl ⟨h1, by omega⟩
  have e2 : (iz dp).toNatClampNeg = dp.toNat := iz_cl ⟨h2, by omega⟩
  have e3 : (iz n).toNatClampNeg = n.toNat := iz_cl ⟨h3, by omega⟩
  have nn : ∀ z : Int, 0 ≤ z → z < 2147483648 → ¬ iz z < 0 := fun z h h9 => by
    have e0 : (0 : Int32) = iz 0 := rfl
    rw [e0, iz_lt ⟨by omega, h9⟩ ⟨by omega, by omega⟩]
    omega
  refine va_copyi hexec hb hml hown hlink hnat hstat hini hK hP hD hS q0 q1 t0 t1 ha0 ha1 ht0 ht1 rfl (nn sp h1 (by omega)) (nn dp h2 (by omega)) (nn n h3 (by omega)) (by rw [e1, e3]; omega) (by rw [e2, e3]; omega) (fun i _ => rfl) hframes hlocals hdg (fun H1 locs1 q1 q2 q3 => ?_)
  rw [e1, e2, e3, cpz_eq h1 h2 h3] at q1 q2
  exact kk H1 locs1 q1 q2 q3
end CopyZ
