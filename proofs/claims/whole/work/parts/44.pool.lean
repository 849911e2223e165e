/-! a pool of rows behind the fixed cells -/
def rows (n : Nat) (ad : Nat → Nat) (ct : Nat → va_E) : va_W := (List.range n).map (fun k => (ad k, ct k))
theorem rows_len {n : Nat} {ad : Nat → Nat} {ct : Nat → va_E} : (rows n ad ct).length = n := by
  unfold rows
  rw [List.length_map, List.length_range]
theorem rows_at {n : Nat} {ad : Nat → Nat} {ct : Nat → va_E} {k : Nat} (h : k < n) : (rows n ad ct)[k]? = some (ad k, ct k) := by
  unfold rows
  rw [List.getElem?_map, List.getElem?_range h]
  rfl
theorem rows_get {X : va_W} {n L : Nat} {ad : Nat → Nat} {ct : Nat → va_E} {k : Nat} (hL : X.length = L) (h : k < n) : (X ++ rows n ad ct)[L + k]? = some (ad k, ct k) := by
  rw [← hL, List.getElem?_append_right (by omega), show X.length + k - X.length = k from by omega, rows_at h]
theorem rows_set {X : va_W} {n L : Nat} {ad : Nat → Nat} {ct : Nat → va_E} {k : Nat} {e : va_E} (hL : X.length = L) : (X ++ rows n ad ct).set (L + k) (ad k, e) = X ++ rows n ad (fun j => if j = k then e else ct j) := by
  rw [← hL, List.set_append_right _ _ (by omega), show X.length + k - X.length = k from by omega]
  congr 1
  apply List.ext_getElem?
  intro j
  unfold rows
  rw [List.getElem?_set]
  by_cases hj : j < n
  · by_cases e1 : k = j
    · subst e1
      simp [hj]
    · have e2 : ¬ j = k := fun q => e1 q.symm
      simp [hj, e1, e2]
  · by_cases e1 : k = j
    · subst e1
      simp [hj]
    · simp [hj, e1]
theorem tail_map {X XC P : va_W} {is : List Nat} {L n : Nat} (hL : X.length = L) (hn : P.length = n) (h : is.map (fun i => (X ++ P)[i]?) = XC.map some) : (is ++ (List.range n).map (fun k => L + k)).map (fun i => (X ++ P)[i]?) = (XC ++ P).map some := by
  rw [List.map_append, h, List.map_append, List.map_map]
  congr 1
  apply List.ext_getElem?
  intro j
  rw [List.getElem?_map, List.getElem?_map]
  by_cases hj : j < n
  · rw [List.getElem?_range hj]
    show some ((X ++ P)[L + j]?) = _
    rw [← hL, List.getElem?_append_right (by omega), show X.length + j - X.length = j from by omega]
    rw [List.getElem?_eq_getElem (by omega)]
    rfl
  · rw [List.getElem?_eq_none (by simp; omega), List.getElem?_eq_none (by omega)]
    rfl
/-- the rows of a net: groups (0 to 12), offsets (13 to 25), joined days (26 to 37) -/
def lnM (k : Nat) : Nat := if k < 26 then 30 else 300
def ctM (G : GG) (M : Nat → Int → Int) (k : Nat) : va_E := .inl (G.2 0, lnM k, .inl (av (M k)))
def um (M : Nat → Int → Int) (k : Nat) (r : Int → Int) : Nat → Int → Int := fun j => if j = k then r else M j
theorem um_at {M : Nat → Int → Int} {k : Nat} {r : Int → Int} : um M k r k = r := if_pos rfl
theorem um_ne {M : Nat → Int → Int} {k j : Nat} {r : Int → Int} (h : j ≠ k) : um M k r j = M j := if_neg h
theorem ctM_um {G : GG} {M : Nat → Int → Int} {k : Nat} {r : Int → Int} : (fun j => if j = k then (.inl (G.2 0, lnM k, .inl (av r)) : va_E) else ctM G M j) = ctM G (um M k r) := by
  funext j
  unfold ctM um
  by_cases h : j = k
  · subst h
    rw [if_pos rfl, if_pos rfl]
  · rw [if_neg h, if_neg h]
theorem pool_get {X : va_W} {L : Nat} {ad : Nat → Nat} {G : GG} {M : Nat → Int → Int} {k n : Nat} (hL : X.length = L) (h : k < 38) (hn : lnM k = n) : (X ++ rows 38 ad (ctM G M))[L + k]? = some (ad k, .inl (G.2 0, n, .inl (av (M k)))) := by
  rw [rows_get hL h, ← hn]
  rfl
theorem pool_set {X : va_W} {L : Nat} {ad : Nat → Nat} {G : GG} {M : Nat → Int → Int} {k n : Nat} {r : Int → Int} (hL : X.length = L) (hn : lnM k = n) : (X ++ rows 38 ad (ctM G M)).set (L + k) (ad k, .inl (G.2 0, n, .inl (av r))) = X ++ rows 38 ad (ctM G (um M k r)) := by
  rw [rows_set hL, ← hn, ctM_um]
theorem ln_lo {k : Nat} (h : k < 26) : lnM k = 30 := if_pos h
theorem ln_hi {k : Nat} (h : ¬ k < 26) : lnM k = 300 := if_neg h
section PoolRows
variable {p : Program} {l : Launch} {e : Env} {R : Room} {s : State} {m : MethodId} {args : Array Value} {below : List Frame} {meth : Method} {c : Code} {H : Heap} {locs : List Loc} {cells slots : Nat} {Q : State → Prop}
variable {cc : ByteArray} {pc : Nat} {ls : Array Slot} {rest : List Value} {A : Nat → Prop} {a : Nat} {ws X : va_W} {H0 : Heap} {G : GG} {ad : Nat → Nat} {M : Nat → Int → Int}
/-- a row of an array of rows -/
theorem zk_rald (hexec : p.tables.exec = Jvm.exec) (hb : c.code = cc) (hK : va_K G.1 vwCl (tys0 G.2) s) (hP : va_P G.1 vwCl ws H) (q0 : Nat) {n : Nat} {g : Int → Option Nat} (ha : ws[q0]? = some (a, .inl (G.2 5, n, .inr (.inr (.inr (.inr (rv g))))))) {z : Int} {y : Nat} (hz : 0 ≤ z ∧ z < n) (hn : n < 2147483648) (hy : g z = some y) (hdg : decode cc pc = .ok (.aaload, 1))
    (k : W p l e R s m args below meth c H locs cells slots Q (F0 m (pc + 1) ls (.ref y :: rest))) : W p l e R s m args below meth c H locs cells slots Q (F0 m pc ls (.int (iz z) :: .ref a :: rest)) := by
  have hin := iz_in hz hn
  have hlt : (iz z).toNatClampNeg < n := Nat.not_le.mp fun q => hin (Or.inr q)
  refine W.aald (v := .ref y) (ty := .array .int) hexec hb (hP q0 _ ha) ((hK.2 5 _ rfl).1 n (fun j => va_rf (rv g j))) rfl (fun q => by cases q) (by show ¬ (iz z < 0 ∨ (arrV _ _ _).slots.size ≤ _); rw [arrV_size]; exact hin) (by show (arrV _ _ _).slots[_]? = _; rw [arrV_read _ _ hlt, iz_cl ⟨hz.1, by omega⟩, rv_at hz.1, hy]; rfl) rfl rfl hdg k
theorem zk_pald (hexec : p.tables.exec = Jvm.exec) (hb : c.code = cc) (hK : va_K G.1 vwCl (tys0 G.2) s) (hP : va_P G.1 vwCl (X ++ rows 38 ad (ctM G M)) H) (L k : Nat) {n : Nat} (hL : X.length = L) (hk : k < 38) (hln : lnM k = n) {z : Int} (hz : 0 ≤ z ∧ z < n) (hn : n < 2147483648) (hdg : decode cc pc = .ok (.iaload, 1))
    (kk : W p l e R s m args below meth c H locs cells slots Q (F0 m (pc + 1) ls (.int (iz (M k z)) :: rest))) : W p l e R s m args below meth c H locs cells slots Q (F0 m pc ls (.int (iz z) :: .ref (ad k) :: rest)) :=
  zk_iald hexec hb hK hP (L + k) 0 (pool_get hL hk hln) rfl hz hn hdg kk
theorem zk_past (hexec : p.tables.exec = Jvm.exec) (hb : c.code = cc) (hK : va_K G.1 vwCl (tys0 G.2) s) (hP : va_P G.1 vwCl (X ++ rows 38 ad (ctM G M)) H) (hD : va_D A (X ++ rows 38 ad (ctM G M))) (hS : va_S A H0 H locs) (L k : Nat) {n : Nat} (hL : X.length = L) (hk : k < 38) (hln : lnM k = n) {z v : Int} (hz : 0 ≤ z ∧ z < n) (hn : n < 2147483648) (hdg : decode cc pc = .ok (.iastore, 1))
    (kk : ∀ (H1 : Heap) (locs1 : List Loc), va_P G.1 vwCl (X ++ rows 38 ad (ctM G (um M k (us (M k) z v)))) H1 → va_D A (X ++ rows 38 ad (ctM G (um M k (us (M k) z v)))) → va_S A H0 H1 locs1 → W p l e R s m args below meth c H1 locs1 cells slots Q (F0 m (pc + 1) ls rest)) : W p l e R s m args below meth c H locs cells slots Q (F0 m pc ls (.int (iz v) :: .int (iz z) :: .ref (ad k) :: rest)) :=
  zk_iast hexec hb hK hP hD hS (L + k) 0 (pool_get hL hk hln) rfl hz hn hdg (fun H1 locs1 h1 h2 h3 => kk H1 locs1 (by rw [pool_set hL hln] at h1; exact h1) (by rw [pool_set hL hln] at h2; exact h2) h3)
theorem zk_pcopy (hexec : p.tables.exec = Jvm.exec) (hb : c.code = cc) (hml : c.maxLocals = ls.size) {own : String} {index : Nat} (hown : s.vm.findClass own = some m.cls) (hlink : (Cond.methodLink own index arraycopyName).before args s = true) (hnat : (Cond.native arraycopyName).before args s = true) (hstat : (Cond.static arraycopyName).before args s = true) (hini : (Cond.initialized "java/lang/System").before args s = true)
    (hK : va_K G.1 vwCl (tys0 G.2) s) (hP : va_P G.1 vwCl (X ++ rows 38 ad (ctM G M)) H) (hD : va_D A (X ++ rows 38 ad (ctM G M))) (hS : va_S A H0 H locs) (L k0 k1 : Nat) {n0 n1 : Nat} (hL : X.length = L) (hk0 : k0 < 38) (hk1 : k1 < 38) (hln0 : lnM k0 = n0) (hln1 : lnM k1 = n1)
    {sp dp n : Int} (h1 : 0 ≤ sp) (h2 : 0 ≤ dp) (h3 : 0 ≤ n) (h4 : sp + n ≤ n0) (h5 : dp + n ≤ n1) (hn0 : n0 < 2147483648) (hn1 : n1 < 2147483648)
    (hframes : 1 ≤ R.frames) (hlocals : (rest.map fun v => v.category).sum + (nativeFrameWords "java/lang/System" "arraycopy" 5 + 11) ≤ R.locals) (hdg : decode cc pc = .ok (.invokestatic index, 3))
    (kk : ∀ (H1 : Heap) (locs1 : List Loc), va_P G.1 vwCl (X ++ rows 38 ad (ctM G (um M k1 (cpz (M k0) (M k1) sp dp n)))) H1 → va_D A (X ++ rows 38 ad (ctM G (um M k1 (cpz (M k0) (M k1) sp dp n)))) → va_S A H0 H1 locs1 → W p l e R s m args below meth c H1 locs1 cells slots Q (F0 m (pc + 3) ls rest)) : W p l e R s m args below meth c H locs cells slots Q (F0 m pc ls (.int (iz n) :: .int (iz dp) :: .ref (ad k1) :: .int (iz sp) :: .ref (ad k0) :: rest)) :=
  zk_copy hexec hb hml hown hlink hnat hstat hini hK hP hD hS (L + k0) (L + k1) 0 0 (pool_get hL hk0 hln0) (pool_get hL hk1 hln1) rfl rfl h1 h2 h3 h4 h5 hn0 hn1 hframes hlocals hdg (fun H1 locs1 q1 q2 q3 => kk H1 locs1 (by rw [pool_set hL hln1] at q1; exact q1) (by rw [pool_set hL hln1] at q2; exact q2) q3)
end PoolRows
section AllCall
variable {p : Program} {l : Launch} {e : Env} {R : Room} {s : State} {m : MethodId} {args : Array Value} {below : List Frame} {meth : Method} {c : Code} {H : Heap} {locs : List Loc} {cells slots : Nat} {Q : State → Prop} {pc : Nat} {ls : Array Slot} {A : Nat → Prop} {G : GG} {E : EE} {S : Type} {wf : S → va_W} {mc ms : Nat} {rest st0 : List Value} {a : Array Value} {ws : va_W}
/-- calls of a method of the same world -/
theorem preA (hEx : Ext E) (hK : KK G s) (hP : va_P G.1 vwCl ws H) (hD : va_D A ws) (hS : va_S A s.heap H locs) (hA : ∀ q, s.heap.size ≤ q → A q) (hE : E A s s.heap) (av : List Value) : ∀ U : State, U.heap = H → s.WarmedH U.vm → va_Pc av (Pre G E ws H.size) av.toArray U := by
  intro U hU hW
  have hF : ∀ q, va_A ws H.size q → A q := by
    rintro q (⟨k, x, hk⟩ | hq)
    · exact hD.2 k _ hk
    · exact hA q (Nat.le_trans hS.1 hq)
  refine ⟨rfl, by rw [hU], by rw [hU]; exact hP, KK.moved hW.alike hK, hD.weaken (fun _ _ _ _ => trivial), ?_⟩
  rw [hU]
  exact hEx.1 _ s U _ (Or.inl hW) (hEx.2.2 A _ s H hF (hEx.2.1 A s s.heap H hS.2.1 hE))
theorem backA_i {post : Int32 → S → Prop} (hr : va_Run p l e R s m args below meth c H locs cells slots mc ms (F0 m pc ls st0) rest (va_Qi post (fun u t => Pst G (va_A ws H.size) (wf u) t) (va_A ws H.size) a) (va_A ws H.size)) (hD : va_D A ws) (hS : va_S A s.heap H locs) (hA : ∀ q, s.heap.size ≤ q → A q)
    (kk : ∀ (r : Int32) (u : S) (H1 : Heap) (locs1 : List Loc), post r u → va_P G.1 vwCl (wf u) H1 → va_D A (wf u) → va_S A s.heap H1 locs1 → W p l e R s m args below meth c H1 locs1 (cells + mc) (slots + ms) Q (F0 m (pc + 3) ls (.int r :: rest))) : W p l e R s m args below meth c H locs cells slots Q (F0 m pc ls st0) := by
  have hF : ∀ q, va_A ws H.size q → A q := by
    rintro q (⟨k, x, hk⟩ | hq)
    · exact hD.2 k _ hk
    · exact hA q (Nat.le_trans hS.1 hq)
  refine va_calli hr hS (fun q _ h => hF q h) hF (fun r u t H1 locs1 ht hvm hw hB hz1 hk1 hS1 => ?_)
  obtain ⟨hP1, hK1, hD1⟩ := hB
  rw [ht] at hP1
  exact kk r u H1 locs1 hw hP1 (hD1.weaken (fun _ _ _ h => hF _ h)) hS1
theorem backA_v {post : S → Prop} (hr : va_Run p l e R s m args below meth c H locs cells slots mc ms (F0 m pc ls st0) rest (va_Qv post (fun u t => Pst G (va_A ws H.size) (wf u) t) (va_A ws H.size) a) (va_A ws H.size)) (hD : va_D A ws) (hS : va_S A s.heap H locs) (hA : ∀ q, s.heap.size ≤ q → A q)
    (kk : ∀ (u : S) (H1 : Heap) (locs1 : List Loc), post u → va_P G.1 vwCl (wf u) H1 → va_D A (wf u) → va_S A s.heap H1 locs1 → W p l e R s m args below meth c H1 locs1 (cells + mc) (slots + ms) Q (F0 m (pc + 3) ls (rest))) : W p l e R s m args below meth c H locs cells slots Q (F0 m pc ls st0) := by
  have hF : ∀ q, va_A ws H.size q → A q := by
    rintro q (⟨k, x, hk⟩ | hq)
    · exact hD.2 k _ hk
    · exact hA q (Nat.le_trans hS.1 hq)
  refine va_callv hr hS (fun q _ h => hF q h) hF (fun u t H1 locs1 ht hvm hw hB hz1 hk1 hS1 => ?_)
  obtain ⟨hP1, hK1, hD1⟩ := hB
  rw [ht] at hP1
  exact kk u H1 locs1 hw hP1 (hD1.weaken (fun _ _ _ h => hF _ h)) hS1
theorem backA_q {post : Option Nat → S → Prop} (hr : va_Run p l e R s m args below meth c H locs cells slots mc ms (F0 m pc ls st0) rest (va_Qq post (fun u t => Pst G (va_A ws H.size) (wf u) t) (va_A ws H.size) a) (va_A ws H.size)) (hD : va_D A ws) (hS : va_S A s.heap H locs) (hA : ∀ q, s.heap.size ≤ q → A q)
    (kk : ∀ (r : Option Nat) (u : S) (H1 : Heap) (locs1 : List Loc), post r u → va_P G.1 vwCl (wf u) H1 → va_D A (wf u) → va_S A s.heap H1 locs1 → W p l e R s m args below meth c H1 locs1 (cells + mc) (slots + ms) Q (F0 m (pc + 3) ls (va_rf r :: rest))) : W p l e R s m args below meth c H locs cells slots Q (F0 m pc ls st0) := by
  have hF : ∀ q, va_A ws H.size q → A q := by
    rintro q (⟨k, x, hk⟩ | hq)
    · exact hD.2 k _ hk
    · exact hA q (Nat.le_trans hS.1 hq)
  refine va_callq hr hS (fun q _ h => hF q h) hF (fun r u t H1 locs1 ht hvm hw hB hz1 hk1 hS1 => ?_)
  obtain ⟨hP1, hK1, hD1⟩ := hB
  rw [ht] at hP1
  exact kk r u H1 locs1 hw hP1 (hD1.weaken (fun _ _ _ h => hF _ h)) hS1
end AllCall
