
abbrev wpl (X Y : va_W) : va_W := X ++ Y
section Net0
variable {p : Program} {l : Launch} {e : Env} {R : Room} {s : State} {m : MethodId} {args : Array Value} {below : List Frame} {meth : Method} {c : Code} {H : Heap} {locs : List Loc} {cells slots : Nat} {Q : State → Prop} {pc : Nat} {ls : Array Slot} {A : Nat → Prop} {G : GG} {S : Type} {wf : S → va_W} {mc ms : Nat} {rest st0 : List Value} {a : Array Value} {ws : va_W}
/-- a call of a method without a world -/
theorem back0_i {post : Int32 → S → Prop} (hr : va_Run p l e R s m args below meth c H locs cells slots mc ms (F0 m pc ls st0) rest (va_Qi post (fun u t => Pst G (va_A [] H.size) (wf u) t) (va_A [] H.size) a) (va_A [] H.size)) (hP : va_P G.1 vwCl ws H) (hD : va_D A ws) (hS : va_S A s.heap H locs) (hA : ∀ q, s.heap.size ≤ q → A q)
    (kk : ∀ (r : Int32) (u : S) (H1 : Heap) (locs1 : List Loc), post r u → va_P G.1 vwCl ws H1 → va_D A ws → va_S A s.heap H1 locs1 → W p l e R s m args below meth c H1 locs1 (cells + mc) (slots + ms) Q (F0 m (pc + 3) ls (.int r :: rest))) : W p l e R s m args below meth c H locs cells slots Q (F0 m pc ls st0) := by
  have hF : ∀ q, va_A [] H.size q → A q := by
    rintro q (⟨k, x, hk⟩ | hq)
    · rw [List.getElem?_nil] at hk; cases hk
    · exact hA q (Nat.le_trans hS.1 hq)
  refine va_calli hr hS (fun q _ h => hF q h) hF (fun r u t H1 locs1 ht hvm hw hB hz1 hk1 hS1 => ?_)
  have n1 : va_P G.1 vwCl [] H1 := fun k x hk => by exact absurd hk (by simp)
  have n2 : va_D (va_A [] H.size) ([] : va_W) := ⟨fun i j x y hi => by exact absurd hi (by simp), fun k x hk => by exact absurd hk (by simp)⟩
  obtain ⟨hP2, hD2⟩ := va_joinQ (X := []) (cx := []) (wr := []) (w1 := []) (pl := ws) hP hD [] [] rfl rfl rfl (fun i hi => absurd hi (List.not_mem_nil)) hk1 hF n1 n2
  exact kk r u H1 locs1 hw hP2 hD2 hS1
end Net0
/-- the stones that have come to a net: their days, which nobody writes -/
def NetE (mb : Int → Option Nat) (sd : Int → Nat) (Ls : Int → List Int) : EE := fun A U H => ∀ k : Int, 0 ≤ k → k < 30 → ∀ x, mb k = some x → va_OF "StoneDates$Stone" "days" "[I" (.ref (sd k)) x A U H ∧ va_T .int (sd k) (Ls k).length (fun j => .int (iz ((Ls k).getD j 0))) A U H
theorem netE_ext (mb : Int → Option Nat) (sd : Int → Nat) (Ls : Int → List Int) : Ext (NetE mb sd Ls) :=
  ⟨fun A u U H hv h k h1 h2 x hx => ⟨va_OF.moved hv.alike (h k h1 h2 x hx).1, va_T.moved hv.alike (h k h1 h2 x hx).2⟩, fun A U H H1 hq h k h1 h2 x hx => ⟨(h k h1 h2 x hx).1.kept hq, (h k h1 h2 x hx).2.kept hq⟩, fun A B U H hq h k h1 h2 x hx => ⟨(h k h1 h2 x hx).1.narrow hq, (h k h1 h2 x hx).2.narrow hq⟩⟩
def daX (ad : Nat → Nat) (sd : Int → Nat) (v : Int) : Nat := if 30 ≤ v then ad (v - 30 + 26).toNat else sd v
def szX (js : Int → Int) (Ls : Int → List Int) (v : Int) : Int := if 30 ≤ v then js (v - 30) else (Ls v).length
def dlX (M : Nat → Int → Int) (Ls : Int → List Int) (v j : Int) : Int := if 30 ≤ v then M (v - 30 + 26).toNat j else (Ls v).getD j.toNat 0
/-- a group's number that stands for days -/
def GOk (mb : Int → Option Nat) (v : Int) : Prop := 0 ≤ v ∧ v < 42 ∧ (v < 30 → ∃ x, mb v = some x)
section Net1
variable {p : Program} {l : Launch} {e : Env} {R : Room} {s : State} {m : MethodId} {args : Array Value} {below : List Frame} {meth : Method} {c : Code} {H : Heap} {locs : List Loc} {cells slots : Nat} {Q : State → Prop} {cc : ByteArray} {pc : Nat} {ls : Array Slot} {A : Nat → Prop} {G : GG} {rest : List Value} {X : va_W} {ad : Nat → Nat} {M : Nat → Int → Int} {mb : Int → Option Nat} {sd : Int → Nat} {Ls : Int → List Int}
theorem zk_dald (hexec : p.tables.exec = Jvm.exec) (hb : c.code = cc) (hK : va_K G.1 vwCl (tys0 G.2) s) (hP : va_P G.1 vwCl (X ++ rows 38 ad (ctM G M)) H) (hE : NetE mb sd Ls A s s.heap) (hS : va_S A s.heap H locs) (L : Nat) (v : Int) (hL : X.length = L) (hv : GOk mb v) {z : Int} (hz : 0 ≤ z ∧ z < 300 ∧ (v < 30 → z < (Ls v).length ∧ (Ls v).length ≤ 300)) (hdg : decode cc pc = .ok (.iaload, 1))
    (kk : W p l e R s m args below meth c H locs cells slots Q (F0 m (pc + 1) ls (.int (iz (dlX M Ls v z)) :: rest))) : W p l e R s m args below meth c H locs cells slots Q (F0 m pc ls (.int (iz z) :: .ref (daX ad sd v) :: rest)) := by
  obtain ⟨h0, h1, h2⟩ := hv
  by_cases hc : 30 ≤ v
  · unfold dlX at kk
    unfold daX
    rw [if_pos hc] at kk ⊢
    exact zk_pald hexec hb hK hP L _ hL (by omega) (ln_hi (by omega)) ⟨hz.1, by omega⟩ (by decide) hdg kk
  · obtain ⟨x, hx⟩ := h2 (by omega)
    unfold dlX at kk
    unfold daX
    rw [if_neg hc] at kk ⊢
    have hlt := hz.2.2 (by omega)
    have hz2 : 0 ≤ z ∧ z < 2147483648 := ⟨hz.1, by omega⟩
    exact va_ti (v := .int (iz ((Ls v).getD z.toNat 0))) hexec hb (hE v h0 (by omega) x hx).2 hS (iz_in ⟨hz.1, hlt.1⟩ (by omega)) (by rw [iz_cl hz2]) hdg kk
end Net1
def Inl (g : Int → Int) (n v : Int) : Prop := ∃ j : Int, 0 ≤ j ∧ j < n ∧ g j = v
def Mono (g : Int → Int) (n : Int) : Prop := ∀ j k : Int, 0 ≤ j → j < k → k < n → g j < g k

/-- the walk along two rising rows -/
def MI (a : Int → Int) (na : Int) (b : Int → Int) (nb ap : Int) (r : Int → Int) (o u n : Int) : Prop := (0 ≤ o ∧ o ≤ na ∧ 0 ≤ u ∧ u ≤ nb ∧ 0 ≤ n ∧ n ≤ o) ∧ Mono r n ∧ (∀ v, Inl r n v ↔ (Inl a o v ∧ Inl b nb (v + ap))) ∧ (∀ y x : Int, 0 ≤ y → y < u → o ≤ x → x < na → b y < a x + ap)
theorem inl_succ {g : Int → Int} {n v : Int} (hn : 0 ≤ n) : Inl g (n + 1) v ↔ Inl g n v ∨ g n = v := by
  constructor
  · rintro ⟨j, h1, h2, h3⟩
    by_cases e1 : j = n
    · subst e1
      exact Or.inr h3
    · exact Or.inl ⟨j, h1, by omega, h3⟩
  · rintro (⟨j, h1, h2, h3⟩ | h)
    · exact ⟨j, h1, by omega, h3⟩
    · exact ⟨n, hn, by omega, h⟩
theorem inl_us {g : Int → Int} {n v w : Int} : Inl (us g n w) n v ↔ Inl g n v := by
  constructor
  · rintro ⟨j, h1, h2, h3⟩
    rw [us_ne (by omega)] at h3
    exact ⟨j, h1, h2, h3⟩
  · rintro ⟨j, h1, h2, h3⟩
    exact ⟨j, h1, h2, by rw [us_ne (by omega)]; exact h3⟩
theorem mi_0 {a b r : Int → Int} {na nb ap : Int} (h1 : 0 ≤ na) (h2 : 0 ≤ nb) : MI a na b nb ap r 0 0 0 := by
  refine ⟨by omega, fun j k q1 q2 q3 => by omega, fun v => ?_, fun y x q1 q2 => by omega⟩
  constructor
  · rintro ⟨j, q1, q2, _⟩
    omega
  · rintro ⟨⟨j, q1, q2, _⟩, _⟩
    omega
theorem mi_hit {a b r : Int → Int} {na nb ap o u n : Int} (ha : Mono a na) (hb : Mono b nb) (h : MI a na b nb ap r o u n) (h1 : o < na) (h2 : u < nb) (hg : b u - a o - ap = 0) : MI a na b nb ap (us r n (a o)) (o + 1) (u + 1) (n + 1) := by
  obtain ⟨hb0, hm, hi, hs⟩ := h
  refine ⟨by omega, ?_, ?_, ?_⟩
  · intro j k q1 q2 q3
    by_cases e1 : k = n
    · subst e1
      rw [us_at, us_ne (by omega)]
      obtain ⟨⟨x, y1, y2, y3⟩, _⟩ := (hi (r j)).1 ⟨j, q1, q2, rfl⟩
      have := ha x o y1 y2 h1
      omega
    · rw [us_ne (by omega), us_ne (by omega)]
      exact hm j k q1 q2 (by omega)
  · intro v
    rw [inl_succ (by omega), inl_us, us_at, hi v, inl_succ (by omega)]
    constructor
    · rintro (⟨q1, q2⟩ | q)
      · exact ⟨Or.inl q1, q2⟩
      · subst q
        exact ⟨Or.inr rfl, u, by omega, h2, by omega⟩
    · rintro ⟨q1 | q1, q2⟩
      · exact Or.inl ⟨q1, q2⟩
      · exact Or.inr q1
  · intro y x q1 q2 q3 q4
    have h5 := ha o x (by omega) (by omega) q4
    by_cases e1 : y = u
    · subst e1
      omega
    · have := hs y o q1 (by omega) (by omega) h1
      omega
theorem mi_hi {a b r : Int → Int} {na nb ap o u n : Int} (hb : Mono b nb) (h : MI a na b nb ap r o u n) (h1 : o < na) (h2 : u < nb) (hg : 0 < b u - a o - ap) : MI a na b nb ap r (o + 1) u n := by
  obtain ⟨hb0, hm, hi, hs⟩ := h
  refine ⟨by omega, hm, ?_, fun y x q1 q2 q3 q4 => hs y x q1 q2 (by omega) q4⟩
  intro v
  rw [hi v, inl_succ (by omega)]
  constructor
  · rintro ⟨q1, q2⟩
    exact ⟨Or.inl q1, q2⟩
  · rintro ⟨q1 | q1, q2⟩
    · exact ⟨q1, q2⟩
    · exfalso
      subst q1
      obtain ⟨y, y1, y2, y3⟩ := q2
      by_cases e1 : y < u
      · have := hs y o y1 e1 (by omega) h1
        omega
      · by_cases e2 : y = u
        · subst e2
          omega
        · have := hb u y (by omega) (by omega) y2
          omega
theorem mi_lo {a b r : Int → Int} {na nb ap o u n : Int} (ha : Mono a na) (h : MI a na b nb ap r o u n) (h1 : o < na) (h2 : u < nb) (hg : b u - a o - ap < 0) : MI a na b nb ap r o (u + 1) n := by
  obtain ⟨hb0, hm, hi, hs⟩ := h
  refine ⟨by omega, hm, hi, ?_⟩
  intro y x q1 q2 q3 q4
  by_cases e1 : y = u
  · subst e1
    by_cases e2 : x = o
    · subst e2
      omega
    · have := ha o x (by omega) (by omega) q4
      omega
  · exact hs y x q1 (by omega) q3 q4
theorem mi_end {a b r : Int → Int} {na nb ap o u n : Int} (h : MI a na b nb ap r o u n) (he : ¬ o < na ∨ ¬ u < nb) : Mono r n ∧ ∀ v, Inl r n v ↔ (Inl a na v ∧ Inl b nb (v + ap)) := by
  obtain ⟨hb0, hm, hi, hs⟩ := h
  refine ⟨hm, fun v => ?_⟩
  rw [hi v]
  constructor
  · rintro ⟨⟨x, q1, q2, q3⟩, q⟩
    exact ⟨⟨x, q1, by omega, q3⟩, q⟩
  · rintro ⟨⟨x, q1, q2, q3⟩, y, y1, y2, y3⟩
    refine ⟨⟨x, q1, ?_, q3⟩, y, y1, y2, y3⟩
    by_cases e1 : x < o
    · exact e1
    · exfalso
      have := hs y x y1 (by omega) (by omega) q2
      omega
theorem dlX_um {M : Nat → Int → Int} {Ls : Int → List Int} {v i : Int} {r : Int → Int} (h : v < 30 + i) (hi : 0 ≤ i) : dlX (um M (i + 26).toNat r) Ls v = dlX M Ls v := by
  funext j
  unfold dlX
  by_cases hc : 30 ≤ v
  · rw [if_pos hc, if_pos hc, um_ne (by omega)]
  · rw [if_neg hc, if_neg hc]

def psM (M : Nat → Int → Int) (i : Int) : Nat → Int → Int := um (um M (i + 1 + 0).toNat (cpz (M (i + 0).toNat) (M (i + 1 + 0).toNat) 0 0 30)) (i + 1 + 13).toNat (cpz ((um M (i + 1 + 0).toNat (cpz (M (i + 0).toNat) (M (i + 1 + 0).toNat) 0 0 30)) (i + 13).toNat) ((um M (i + 1 + 0).toNat (cpz (M (i + 0).toNat) (M (i + 1 + 0).toNat) 0 0 30)) (i + 1 + 13).toNat) 0 0 30)
theorem hw_X3_pass_5b42a7 : (.fieldLink RX3 29 "StoneDates$Net" "group" "[[I" : Cond) ∈ wsX3_pass := by decide +kernel
theorem hi_X3_pass_X3 : ∀ w ∈ u_ws RX3 TX3 13, w ∈ wsX3_pass := by decide +kernel
theorem hw_X3_pass_ab8568 : (.methodLink RX3 81 arraycopyName : Cond) ∈ wsX3_pass := by decide +kernel
theorem hw_X3_pass_a648c8 : (.native arraycopyName : Cond) ∈ wsX3_pass := by decide +kernel
theorem hw_X3_pass_410d49 : (.static arraycopyName : Cond) ∈ wsX3_pass := by decide +kernel
theorem hw_X3_pass_4260ff : (.initialized "java/lang/System" : Cond) ∈ wsX3_pass := by decide +kernel
theorem hw_X3_pass_1dff87 : (.fieldLink RX3 32 "StoneDates$Net" "offset" "[[I" : Cond) ∈ wsX3_pass := by decide +kernel
set_option maxHeartbeats 4000000 in
set_option maxRecDepth 100000 in
theorem c_X3_pass (l : Launch) (G : GG) (nt : Nat) (mem : Nat) (fr : Nat) (to_ : Nat) (da : Nat) (gr : Nat) (of_ : Nat) (jo : Nat) (jsA : Nat) (ad : Nat → Nat) (mb : Int → Option Nat) (fF : Int → Int) (tT : Int → Int) (dD : Int → Int) (js : Int → Int) (M : Nat → Int → Int) (size : Int) (mcn : Int) (few : Int) (wrg : Int) (slv : Int) (i : Int) (hi : 0 ≤ i ∧ i < 12) : Cv l yX3_pass wsX3_pass ({ frames := 1, cells := 0, slots := 0, locals := 40 }) G E0 [.ref nt, .int (iz i)] (wpl [(nt, .inr (1, [.int (iz size), .int (iz mcn), .int (iz few), .int (iz wrg), .int (iz slv), .ref mem, .ref fr, .ref to_, .ref da, .ref gr, .ref of_, .ref jo, .ref jsA])), (mem, .inl (G.2 4, 30, .inr (.inr (.inr (.inr (rv mb)))))), (fr, .inl (G.2 0, 12, .inl (av fF))), (to_, .inl (G.2 0, 12, .inl (av tT))), (da, .inl (G.2 0, 12, .inl (av dD))), (gr, .inl (G.2 5, 13, .inr (.inr (.inr (.inr (rv (fun k_ => some (ad (k_ + 0).toNat)))))))), (of_, .inl (G.2 5, 13, .inr (.inr (.inr (.inr (rv (fun k_ => some (ad (k_ + 13).toNat)))))))), (jo, .inl (G.2 5, 12, .inr (.inr (.inr (.inr (rv (fun k_ => some (ad (k_ + 26).toNat)))))))), (jsA, .inl (G.2 0, 12, .inl (av js)))] (rows 38 ad (ctM G M))) 0 0 (fun _ : Unit => (wpl [(nt, .inr (1, [.int (iz size), .int (iz mcn), .int (iz few), .int (iz wrg), .int (iz slv), .ref mem, .ref fr, .ref to_, .ref da, .ref gr, .ref of_, .ref jo, .ref jsA])), (mem, .inl (G.2 4, 30, .inr (.inr (.inr (.inr (rv mb)))))), (fr, .inl (G.2 0, 12, .inl (av fF))), (to_, .inl (G.2 0, 12, .inl (av tT))), (da, .inl (G.2 0, 12, .inl (av dD))), (gr, .inl (G.2 5, 13, .inr (.inr (.inr (.inr (rv (fun k_ => some (ad (k_ + 0).toNat)))))))), (of_, .inl (G.2 5, 13, .inr (.inr (.inr (.inr (rv (fun k_ => some (ad (k_ + 13).toNat)))))))), (jo, .inl (G.2 5, 12, .inr (.inr (.inr (.inr (rv (fun k_ => some (ad (k_ + 26).toNat)))))))), (jsA, .inl (G.2 0, 12, .inl (av js)))] (rows 38 ad (ctM G (psM M i))))) (fun (_ : Unit) => True) := by
  refine Cv_intro (cc := cX3_pass) (maxL := 2) (ret := none) (by decide) rfl (Nat.le_of_ble_eq_true rfl) ?_
  intro p e s m below meth c A F hA hP hD hK hE ls hl
  have hX_ := F.1
  have hB_ := F.2.1
  have hts := F.2.2.2.2.2.1
  have hown := F.2.2.2.2.1
  have hml := F.2.2.2.1
  have hS : va_S A s.heap s.heap [] := va_S.rf
  have hl : lv_has ls 2 [(0, .ref nt), (1, .int (iz i))] := hl
  refine lv_aload_n hX_ hB_ dX3_pass_0 rfl (lv_at hl 0 rfl) ?_
  refine va_get (D := G.1) (ci := 1) (v := .ref gr) (C := RX3) (T := TX3) (N := 13) hX_ hB_ hts hi_X3_pass_X3 hown hK.1 hP 0 rfl rfl 9 (by decide) (hts _ hw_X3_pass_5b42a7) (fun _ h9 => h9) rfl dX3_pass_1 ?_
  refine lv_iload_n hX_ hB_ dX3_pass_4 rfl (lv_at hl 1 rfl) ?_
  refine zk_rald hX_ hB_ hK.1 hP 5 rfl (by omega) (by decide) rfl dX3_pass_5 ?_
  refine zk_iconst hX_ hB_ dX3_pass_6 ?_
  refine lv_aload_n hX_ hB_ dX3_pass_7 rfl (lv_at hl 0 rfl) ?_
  refine va_get (D := G.1) (ci := 1) (v := .ref gr) (C := RX3) (T := TX3) (N := 13) hX_ hB_ hts hi_X3_pass_X3 hown hK.1 hP 0 rfl rfl 9 (by decide) (hts _ hw_X3_pass_5b42a7) (fun _ h9 => h9) rfl dX3_pass_8 ?_
  refine lv_iload_n hX_ hB_ dX3_pass_11 rfl (lv_at hl 1 rfl) ?_
  refine zk_iconst hX_ hB_ dX3_pass_12 ?_
  refine zk_iadd hX_ hB_ dX3_pass_13 ?_
  refine zk_rald hX_ hB_ hK.1 hP 5 rfl (by omega) (by decide) rfl dX3_pass_14 ?_
  refine zk_iconst hX_ hB_ dX3_pass_15 ?_
  refine zk_bipush hX_ hB_ (by decide) dX3_pass_16 ?_
  refine zk_pcopy (M := M) hX_ hB_ (by rw [hml]; exact hl.1.symm) hown (hts _ hw_X3_pass_ab8568) (hts _ hw_X3_pass_a648c8) (hts _ hw_X3_pass_410d49) (hts _ hw_X3_pass_4260ff) hK.1 hP hD hS 9 (i + 0).toNat (i + 1 + 0).toNat rfl (by omega) (by omega) (ln_lo (by omega)) (ln_lo (by omega)) (by omega) (by omega) (by omega) (by omega) (by omega) (by decide) (by decide) (Nat.le_of_ble_eq_true rfl) (Nat.le_of_ble_eq_true rfl) dX3_pass_18 (fun H locs hP hD hS => ?_)
  have hP : va_P G.1 vwCl (wpl [(nt, .inr (1, [.int (iz size), .int (iz mcn), .int (iz few), .int (iz wrg), .int (iz slv), .ref mem, .ref fr, .ref to_, .ref da, .ref gr, .ref of_, .ref jo, .ref jsA])), (mem, .inl (G.2 4, 30, .inr (.inr (.inr (.inr (rv mb)))))), (fr, .inl (G.2 0, 12, .inl (av fF))), (to_, .inl (G.2 0, 12, .inl (av tT))), (da, .inl (G.2 0, 12, .inl (av dD))), (gr, .inl (G.2 5, 13, .inr (.inr (.inr (.inr (rv (fun k_ => some (ad (k_ + 0).toNat)))))))), (of_, .inl (G.2 5, 13, .inr (.inr (.inr (.inr (rv (fun k_ => some (ad (k_ + 13).toNat)))))))), (jo, .inl (G.2 5, 12, .inr (.inr (.inr (.inr (rv (fun k_ => some (ad (k_ + 26).toNat)))))))), (jsA, .inl (G.2 0, 12, .inl (av js)))] (rows 38 ad (ctM G (um M (i + 1 + 0).toNat (cpz (M (i + 0).toNat) (M (i + 1 + 0).toNat) 0 0 30))))) _ := hP
  have hD : va_D A (wpl [(nt, .inr (1, [.int (iz size), .int (iz mcn), .int (iz few), .int (iz wrg), .int (iz slv), .ref mem, .ref fr, .ref to_, .ref da, .ref gr, .ref of_, .ref jo, .ref jsA])), (mem, .inl (G.2 4, 30, .inr (.inr (.inr (.inr (rv mb)))))), (fr, .inl (G.2 0, 12, .inl (av fF))), (to_, .inl (G.2 0, 12, .inl (av tT))), (da, .inl (G.2 0, 12, .inl (av dD))), (gr, .inl (G.2 5, 13, .inr (.inr (.inr (.inr (rv (fun k_ => some (ad (k_ + 0).toNat)))))))), (of_, .inl (G.2 5, 13, .inr (.inr (.inr (.inr (rv (fun k_ => some (ad (k_ + 13).toNat)))))))), (jo, .inl (G.2 5, 12, .inr (.inr (.inr (.inr (rv (fun k_ => some (ad (k_ + 26).toNat)))))))), (jsA, .inl (G.2 0, 12, .inl (av js)))] (rows 38 ad (ctM G (um M (i + 1 + 0).toNat (cpz (M (i + 0).toNat) (M (i + 1 + 0).toNat) 0 0 30))))) := hD
  refine lv_aload_n hX_ hB_ dX3_pass_21 rfl (lv_at hl 0 rfl) ?_
  refine va_get (D := G.1) (ci := 1) (v := .ref of_) (C := RX3) (T := TX3) (N := 13) hX_ hB_ hts hi_X3_pass_X3 hown hK.1 hP 0 rfl rfl 10 (by decide) (hts _ hw_X3_pass_1dff87) (fun _ h9 => h9) rfl dX3_pass_22 ?_
  refine lv_iload_n hX_ hB_ dX3_pass_25 rfl (lv_at hl 1 rfl) ?_
  refine zk_rald hX_ hB_ hK.1 hP 6 rfl (by omega) (by decide) rfl dX3_pass_26 ?_
  refine zk_iconst hX_ hB_ dX3_pass_27 ?_
  refine lv_aload_n hX_ hB_ dX3_pass_28 rfl (lv_at hl 0 rfl) ?_
  refine va_get (D := G.1) (ci := 1) (v := .ref of_) (C := RX3) (T := TX3) (N := 13) hX_ hB_ hts hi_X3_pass_X3 hown hK.1 hP 0 rfl rfl 10 (by decide) (hts _ hw_X3_pass_1dff87) (fun _ h9 => h9) rfl dX3_pass_29 ?_
  refine lv_iload_n hX_ hB_ dX3_pass_32 rfl (lv_at hl 1 rfl) ?_
  refine zk_iconst hX_ hB_ dX3_pass_33 ?_
  refine zk_iadd hX_ hB_ dX3_pass_34 ?_
  refine zk_rald hX_ hB_ hK.1 hP 6 rfl (by omega) (by decide) rfl dX3_pass_35 ?_
  refine zk_iconst hX_ hB_ dX3_pass_36 ?_
  refine zk_bipush hX_ hB_ (by decide) dX3_pass_37 ?_
  refine zk_pcopy (M := um M (i + 1 + 0).toNat (cpz (M (i + 0).toNat) (M (i + 1 + 0).toNat) 0 0 30)) hX_ hB_ (by rw [hml]; exact hl.1.symm) hown (hts _ hw_X3_pass_ab8568) (hts _ hw_X3_pass_a648c8) (hts _ hw_X3_pass_410d49) (hts _ hw_X3_pass_4260ff) hK.1 hP hD hS 9 (i + 13).toNat (i + 1 + 13).toNat rfl (by omega) (by omega) (ln_lo (by omega)) (ln_lo (by omega)) (by omega) (by omega) (by omega) (by omega) (by omega) (by decide) (by decide) (Nat.le_of_ble_eq_true rfl) (Nat.le_of_ble_eq_true rfl) dX3_pass_39 (fun H locs hP hD hS => ?_)
  have hP : va_P G.1 vwCl (wpl [(nt, .inr (1, [.int (iz size), .int (iz mcn), .int (iz few), .int (iz wrg), .int (iz slv), .ref mem, .ref fr, .ref to_, .ref da, .ref gr, .ref of_, .ref jo, .ref jsA])), (mem, .inl (G.2 4, 30, .inr (.inr (.inr (.inr (rv mb)))))), (fr, .inl (G.2 0, 12, .inl (av fF))), (to_, .inl (G.2 0, 12, .inl (av tT))), (da, .inl (G.2 0, 12, .inl (av dD))), (gr, .inl (G.2 5, 13, .inr (.inr (.inr (.inr (rv (fun k_ => some (ad (k_ + 0).toNat)))))))), (of_, .inl (G.2 5, 13, .inr (.inr (.inr (.inr (rv (fun k_ => some (ad (k_ + 13).toNat)))))))), (jo, .inl (G.2 5, 12, .inr (.inr (.inr (.inr (rv (fun k_ => some (ad (k_ + 26).toNat)))))))), (jsA, .inl (G.2 0, 12, .inl (av js)))] (rows 38 ad (ctM G (um (um M (i + 1 + 0).toNat (cpz (M (i + 0).toNat) (M (i + 1 + 0).toNat) 0 0 30)) (i + 1 + 13).toNat (cpz ((um M (i + 1 + 0).toNat (cpz (M (i + 0).toNat) (M (i + 1 + 0).toNat) 0 0 30)) (i + 13).toNat) ((um M (i + 1 + 0).toNat (cpz (M (i + 0).toNat) (M (i + 1 + 0).toNat) 0 0 30)) (i + 1 + 13).toNat) 0 0 30))))) _ := hP
  have hD : va_D A (wpl [(nt, .inr (1, [.int (iz size), .int (iz mcn), .int (iz few), .int (iz wrg), .int (iz slv), .ref mem, .ref fr, .ref to_, .ref da, .ref gr, .ref of_, .ref jo, .ref jsA])), (mem, .inl (G.2 4, 30, .inr (.inr (.inr (.inr (rv mb)))))), (fr, .inl (G.2 0, 12, .inl (av fF))), (to_, .inl (G.2 0, 12, .inl (av tT))), (da, .inl (G.2 0, 12, .inl (av dD))), (gr, .inl (G.2 5, 13, .inr (.inr (.inr (.inr (rv (fun k_ => some (ad (k_ + 0).toNat)))))))), (of_, .inl (G.2 5, 13, .inr (.inr (.inr (.inr (rv (fun k_ => some (ad (k_ + 13).toNat)))))))), (jo, .inl (G.2 5, 12, .inr (.inr (.inr (.inr (rv (fun k_ => some (ad (k_ + 26).toNat)))))))), (jsA, .inl (G.2 0, 12, .inl (av js)))] (rows 38 ad (ctM G (um (um M (i + 1 + 0).toNat (cpz (M (i + 0).toNat) (M (i + 1 + 0).toNat) 0 0 30)) (i + 1 + 13).toNat (cpz ((um M (i + 1 + 0).toNat (cpz (M (i + 0).toNat) (M (i + 1 + 0).toNat) 0 0 30)) (i + 13).toNat) ((um M (i + 1 + 0).toNat (cpz (M (i + 0).toNat) (M (i + 1 + 0).toNat) 0 0 30)) (i + 1 + 13).toNat) 0 0 30))))) := hD
  have hP : va_P G.1 vwCl (wpl [(nt, .inr (1, [.int (iz size), .int (iz mcn), .int (iz few), .int (iz wrg), .int (iz slv), .ref mem, .ref fr, .ref to_, .ref da, .ref gr, .ref of_, .ref jo, .ref jsA])), (mem, .inl (G.2 4, 30, .inr (.inr (.inr (.inr (rv mb)))))), (fr, .inl (G.2 0, 12, .inl (av fF))), (to_, .inl (G.2 0, 12, .inl (av tT))), (da, .inl (G.2 0, 12, .inl (av dD))), (gr, .inl (G.2 5, 13, .inr (.inr (.inr (.inr (rv (fun k_ => some (ad (k_ + 0).toNat)))))))), (of_, .inl (G.2 5, 13, .inr (.inr (.inr (.inr (rv (fun k_ => some (ad (k_ + 13).toNat)))))))), (jo, .inl (G.2 5, 12, .inr (.inr (.inr (.inr (rv (fun k_ => some (ad (k_ + 26).toNat)))))))), (jsA, .inl (G.2 0, 12, .inl (av js)))] (rows 38 ad (ctM G (psM M i)))) _ := hP
  have hD : va_D A (wpl [(nt, .inr (1, [.int (iz size), .int (iz mcn), .int (iz few), .int (iz wrg), .int (iz slv), .ref mem, .ref fr, .ref to_, .ref da, .ref gr, .ref of_, .ref jo, .ref jsA])), (mem, .inl (G.2 4, 30, .inr (.inr (.inr (.inr (rv mb)))))), (fr, .inl (G.2 0, 12, .inl (av fF))), (to_, .inl (G.2 0, 12, .inl (av tT))), (da, .inl (G.2 0, 12, .inl (av dD))), (gr, .inl (G.2 5, 13, .inr (.inr (.inr (.inr (rv (fun k_ => some (ad (k_ + 0).toNat)))))))), (of_, .inl (G.2 5, 13, .inr (.inr (.inr (.inr (rv (fun k_ => some (ad (k_ + 13).toNat)))))))), (jo, .inl (G.2 5, 12, .inr (.inr (.inr (.inr (rv (fun k_ => some (ad (k_ + 26).toNat)))))))), (jsA, .inl (G.2 0, 12, .inl (av js)))] (rows 38 ad (ctM G (psM M i)))) := hD
  exact fin_v (wf := (fun _ : Unit => (wpl [(nt, .inr (1, [.int (iz size), .int (iz mcn), .int (iz few), .int (iz wrg), .int (iz slv), .ref mem, .ref fr, .ref to_, .ref da, .ref gr, .ref of_, .ref jo, .ref jsA])), (mem, .inl (G.2 4, 30, .inr (.inr (.inr (.inr (rv mb)))))), (fr, .inl (G.2 0, 12, .inl (av fF))), (to_, .inl (G.2 0, 12, .inl (av tT))), (da, .inl (G.2 0, 12, .inl (av dD))), (gr, .inl (G.2 5, 13, .inr (.inr (.inr (.inr (rv (fun k_ => some (ad (k_ + 0).toNat)))))))), (of_, .inl (G.2 5, 13, .inr (.inr (.inr (.inr (rv (fun k_ => some (ad (k_ + 13).toNat)))))))), (jo, .inl (G.2 5, 12, .inr (.inr (.inr (.inr (rv (fun k_ => some (ad (k_ + 26).toNat)))))))), (jsA, .inl (G.2 0, 12, .inl (av js)))] (rows 38 ad (ctM G (psM M i)))))) () F hP hD hK hS (by decide) (by decide) dX3_pass_42 trivial

theorem hw_X3_isAsked_d702f7 : (.fieldLink RX3 11 "StoneDates$Net" "members" "[LStoneDates$Stone;" : Cond) ∈ wsX3_isAsked := by decide +kernel
theorem hi_X3_isAsked_X3 : ∀ w ∈ u_ws RX3 TX3 13, w ∈ wsX3_isAsked := by decide +kernel
theorem hw_X3_isAsked_7cb8c8 : (.fieldLink RX3 17 "StoneDates$Net" "from" "[I" : Cond) ∈ wsX3_isAsked := by decide +kernel
theorem hw_X3_isAsked_d4916d : (.fieldLink RX3 21 "StoneDates$Net" "to" "[I" : Cond) ∈ wsX3_isAsked := by decide +kernel
set_option maxHeartbeats 4000000 in
set_option maxRecDepth 100000 in
theorem c_X3_isAsked (l : Launch) (G : GG) (nt : Nat) (mem : Nat) (fr : Nat) (to_ : Nat) (da : Nat) (gr : Nat) (of_ : Nat) (jo : Nat) (jsA : Nat) (ad : Nat → Nat) (mb : Int → Option Nat) (fF : Int → Int) (tT : Int → Int) (dD : Int → Int) (js : Int → Int) (M : Nat → Int → Int) (size : Int) (mcn : Int) (few : Int) (wrg : Int) (slv : Int) (i : Int) (hi : 0 ≤ i ∧ i < 12) (hf : 0 ≤ fF i ∧ fF i < 30) (ht : 0 ≤ tT i ∧ tT i < 30) : Ci l yX3_isAsked wsX3_isAsked ({ frames := 0, cells := 0, slots := 0, locals := 0 }) G E0 [.ref nt, .int (iz i)] (wpl [(nt, .inr (1, [.int (iz size), .int (iz mcn), .int (iz few), .int (iz wrg), .int (iz slv), .ref mem, .ref fr, .ref to_, .ref da, .ref gr, .ref of_, .ref jo, .ref jsA])), (mem, .inl (G.2 4, 30, .inr (.inr (.inr (.inr (rv mb)))))), (fr, .inl (G.2 0, 12, .inl (av fF))), (to_, .inl (G.2 0, 12, .inl (av tT))), (da, .inl (G.2 0, 12, .inl (av dD))), (gr, .inl (G.2 5, 13, .inr (.inr (.inr (.inr (rv (fun k_ => some (ad (k_ + 0).toNat)))))))), (of_, .inl (G.2 5, 13, .inr (.inr (.inr (.inr (rv (fun k_ => some (ad (k_ + 13).toNat)))))))), (jo, .inl (G.2 5, 12, .inr (.inr (.inr (.inr (rv (fun k_ => some (ad (k_ + 26).toNat)))))))), (jsA, .inl (G.2 0, 12, .inl (av js)))] (rows 38 ad (ctM G M))) 0 0 (fun _ : Unit => (wpl [(nt, .inr (1, [.int (iz size), .int (iz mcn), .int (iz few), .int (iz wrg), .int (iz slv), .ref mem, .ref fr, .ref to_, .ref da, .ref gr, .ref of_, .ref jo, .ref jsA])), (mem, .inl (G.2 4, 30, .inr (.inr (.inr (.inr (rv mb)))))), (fr, .inl (G.2 0, 12, .inl (av fF))), (to_, .inl (G.2 0, 12, .inl (av tT))), (da, .inl (G.2 0, 12, .inl (av dD))), (gr, .inl (G.2 5, 13, .inr (.inr (.inr (.inr (rv (fun k_ => some (ad (k_ + 0).toNat)))))))), (of_, .inl (G.2 5, 13, .inr (.inr (.inr (.inr (rv (fun k_ => some (ad (k_ + 13).toNat)))))))), (jo, .inl (G.2 5, 12, .inr (.inr (.inr (.inr (rv (fun k_ => some (ad (k_ + 26).toNat)))))))), (jsA, .inl (G.2 0, 12, .inl (av js)))] (rows 38 ad (ctM G M)))) (fun (r : Int32) (_ : Unit) => r = (zb ((mb (fF i)).isSome && (mb (tT i)).isSome))) := by
  refine Ci_intro (cc := cX3_isAsked) (maxL := 2) (ret := (some .boolean)) (by decide) rfl (Nat.le_of_ble_eq_true rfl) ?_
  intro p e s m below meth c A F hA hP hD hK hE ls hl
  have hX_ := F.1
  have hB_ := F.2.1
  have hts := F.2.2.2.2.2.1
  have hown := F.2.2.2.2.1
  have hml := F.2.2.2.1
  have hS : va_S A s.heap s.heap [] := va_S.rf
  have hl : lv_has ls 2 [(0, .ref nt), (1, .int (iz i))] := hl
  refine lv_aload_n hX_ hB_ dX3_isAsked_0 rfl (lv_at hl 0 rfl) ?_
  refine va_get (D := G.1) (ci := 1) (v := .ref mem) (C := RX3) (T := TX3) (N := 13) hX_ hB_ hts hi_X3_isAsked_X3 hown hK.1 hP 0 rfl rfl 5 (by decide) (hts _ hw_X3_isAsked_d702f7) (fun _ h9 => h9) rfl dX3_isAsked_1 ?_
  refine lv_aload_n hX_ hB_ dX3_isAsked_4 rfl (lv_at hl 0 rfl) ?_
  refine va_get (D := G.1) (ci := 1) (v := .ref fr) (C := RX3) (T := TX3) (N := 13) hX_ hB_ hts hi_X3_isAsked_X3 hown hK.1 hP 0 rfl rfl 6 (by decide) (hts _ hw_X3_isAsked_7cb8c8) (fun _ h9 => h9) rfl dX3_isAsked_5 ?_
  refine lv_iload_n hX_ hB_ dX3_isAsked_8 rfl (lv_at hl 1 rfl) ?_
  refine zk_iald hX_ hB_ hK.1 hP 2 0 rfl rfl (by omega) (by decide) dX3_isAsked_9 ?_
  refine zk_qald hX_ hB_ hK.1 hP 1 4 rfl rfl (by omega) (by decide) dX3_isAsked_10 ?_
  rcases hq_a : mb (fF i) with _ | x_a
  · skip
    refine zk_top (y := .null) rfl ?_
    refine lv_ifnullN (tgt := 32) hX_ hB_ dX3_isAsked_11 (by decide) ?_
    refine zk_iconst hX_ hB_ dX3_isAsked_32 ?_
    refine zk_topi (y := zb false) rfl ?_
    exact fin_i (wf := (fun _ : Unit => (wpl [(nt, .inr (1, [.int (iz size), .int (iz mcn), .int (iz few), .int (iz wrg), .int (iz slv), .ref mem, .ref fr, .ref to_, .ref da, .ref gr, .ref of_, .ref jo, .ref jsA])), (mem, .inl (G.2 4, 30, .inr (.inr (.inr (.inr (rv mb)))))), (fr, .inl (G.2 0, 12, .inl (av fF))), (to_, .inl (G.2 0, 12, .inl (av tT))), (da, .inl (G.2 0, 12, .inl (av dD))), (gr, .inl (G.2 5, 13, .inr (.inr (.inr (.inr (rv (fun k_ => some (ad (k_ + 0).toNat)))))))), (of_, .inl (G.2 5, 13, .inr (.inr (.inr (.inr (rv (fun k_ => some (ad (k_ + 13).toNat)))))))), (jo, .inl (G.2 5, 12, .inr (.inr (.inr (.inr (rv (fun k_ => some (ad (k_ + 26).toNat)))))))), (jsA, .inl (G.2 0, 12, .inl (av js)))] (rows 38 ad (ctM G M))))) () F (zb_nar _) hP hD hK hS (by decide) (by decide) dX3_isAsked_33 (by simp [*])
  · skip
    refine zk_top (y := .ref x_a) rfl ?_
    refine lv_ifnull hX_ hB_ dX3_isAsked_11 ?_
    refine lv_aload_n hX_ hB_ dX3_isAsked_14 rfl (lv_at hl 0 rfl) ?_
    refine va_get (D := G.1) (ci := 1) (v := .ref mem) (C := RX3) (T := TX3) (N := 13) hX_ hB_ hts hi_X3_isAsked_X3 hown hK.1 hP 0 rfl rfl 5 (by decide) (hts _ hw_X3_isAsked_d702f7) (fun _ h9 => h9) rfl dX3_isAsked_15 ?_
    refine lv_aload_n hX_ hB_ dX3_isAsked_18 rfl (lv_at hl 0 rfl) ?_
    refine va_get (D := G.1) (ci := 1) (v := .ref to_) (C := RX3) (T := TX3) (N := 13) hX_ hB_ hts hi_X3_isAsked_X3 hown hK.1 hP 0 rfl rfl 7 (by decide) (hts _ hw_X3_isAsked_d4916d) (fun _ h9 => h9) rfl dX3_isAsked_19 ?_
    refine lv_iload_n hX_ hB_ dX3_isAsked_22 rfl (lv_at hl 1 rfl) ?_
    refine zk_iald hX_ hB_ hK.1 hP 3 0 rfl rfl (by omega) (by decide) dX3_isAsked_23 ?_
    refine zk_qald hX_ hB_ hK.1 hP 1 4 rfl rfl (by omega) (by decide) dX3_isAsked_24 ?_
    rcases hq_b : mb (tT i) with _ | x_b
    · skip
      refine zk_top (y := .null) rfl ?_
      refine lv_ifnullN (tgt := 32) hX_ hB_ dX3_isAsked_25 (by decide) ?_
      refine zk_iconst hX_ hB_ dX3_isAsked_32 ?_
      refine zk_topi (y := zb false) rfl ?_
      exact fin_i (wf := (fun _ : Unit => (wpl [(nt, .inr (1, [.int (iz size), .int (iz mcn), .int (iz few), .int (iz wrg), .int (iz slv), .ref mem, .ref fr, .ref to_, .ref da, .ref gr, .ref of_, .ref jo, .ref jsA])), (mem, .inl (G.2 4, 30, .inr (.inr (.inr (.inr (rv mb)))))), (fr, .inl (G.2 0, 12, .inl (av fF))), (to_, .inl (G.2 0, 12, .inl (av tT))), (da, .inl (G.2 0, 12, .inl (av dD))), (gr, .inl (G.2 5, 13, .inr (.inr (.inr (.inr (rv (fun k_ => some (ad (k_ + 0).toNat)))))))), (of_, .inl (G.2 5, 13, .inr (.inr (.inr (.inr (rv (fun k_ => some (ad (k_ + 13).toNat)))))))), (jo, .inl (G.2 5, 12, .inr (.inr (.inr (.inr (rv (fun k_ => some (ad (k_ + 26).toNat)))))))), (jsA, .inl (G.2 0, 12, .inl (av js)))] (rows 38 ad (ctM G M))))) () F (zb_nar _) hP hD hK hS (by decide) (by decide) dX3_isAsked_33 (by simp [*])
    · skip
      refine zk_top (y := .ref x_b) rfl ?_
      refine lv_ifnull hX_ hB_ dX3_isAsked_25 ?_
      refine zk_iconst hX_ hB_ dX3_isAsked_28 ?_
      refine lv_goto (tgt := 33) hX_ hB_ dX3_isAsked_29 (by decide) ?_
      refine zk_topi (y := zb true) rfl ?_
      exact fin_i (wf := (fun _ : Unit => (wpl [(nt, .inr (1, [.int (iz size), .int (iz mcn), .int (iz few), .int (iz wrg), .int (iz slv), .ref mem, .ref fr, .ref to_, .ref da, .ref gr, .ref of_, .ref jo, .ref jsA])), (mem, .inl (G.2 4, 30, .inr (.inr (.inr (.inr (rv mb)))))), (fr, .inl (G.2 0, 12, .inl (av fF))), (to_, .inl (G.2 0, 12, .inl (av tT))), (da, .inl (G.2 0, 12, .inl (av dD))), (gr, .inl (G.2 5, 13, .inr (.inr (.inr (.inr (rv (fun k_ => some (ad (k_ + 0).toNat)))))))), (of_, .inl (G.2 5, 13, .inr (.inr (.inr (.inr (rv (fun k_ => some (ad (k_ + 13).toNat)))))))), (jo, .inl (G.2 5, 12, .inr (.inr (.inr (.inr (rv (fun k_ => some (ad (k_ + 26).toNat)))))))), (jsA, .inl (G.2 0, 12, .inl (av js)))] (rows 38 ad (ctM G M))))) () F (zb_nar _) hP hD hK hS (by decide) (by decide) dX3_isAsked_33 (by simp [*])
