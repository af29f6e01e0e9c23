/-! calls -/
/-- the words of a call of the method μ' (n parameters) from the class own, at the entry idx of its pool -/
def CLb (own : String) (μ' : MI) (n : Nat) : Prop := Cond.code μ'.1 μ'.2.1 μ'.2.2.1 μ'.2.2.2 ∈ gw ∧ Cond.initialized μ'.1.cls ∈ gw ∧ (μ'.1.cls ≠ "java/lang/invoke/MethodHandle" ∧ μ'.1.cls ≠ "java/lang/invoke/VarHandle" ∧ (parseMethodDescriptor μ'.1.desc).map (fun d => d.parameters.length) = some n) ∧ μ'.2.2.1 ≤ 40
def CLv (own : String) (idx : Nat) (μ' : MI) (n : Nat) : Prop := CLb own μ' n ∧ Cond.methodLink own idx μ'.1 ∈ gw ∧ Cond.instanceMethod μ'.1 ∈ gw ∧ Cond.selects μ'.1.cls μ'.1 μ'.1 ∈ gw
def CLs (own : String) (idx : Nat) (μ' : MI) (n : Nat) : Prop := CLb own μ' n ∧ Cond.methodLink own idx μ'.1 ∈ gw ∧ Cond.static μ'.1 ∈ gw
def CLi (own : String) (idx : Nat) (μ' : MI) (n : Nat) : Prop := CLb own μ' n ∧ Cond.methodLink own idx μ'.1 ∈ gw ∧ Cond.instanceMethod μ'.1 ∈ gw ∧ μ'.1.name = "<init>" ∧ μ'.2.2.2 = none
def CLsN (own : String) (idx : Nat) (μ' : MI) (n : Nat) (host : String) : Prop := CLb own μ' n ∧ Cond.methodLinkNest own idx μ'.1 host ∈ exW ∧ Cond.static μ'.1 ∈ gw
def CLiN (own : String) (idx : Nat) (μ' : MI) (n : Nat) (host : String) : Prop := CLb own μ' n ∧ Cond.methodLinkNest own idx μ'.1 host ∈ exW ∧ Cond.instanceMethod μ'.1 ∈ gw ∧ μ'.1.name = "<init>" ∧ μ'.2.2.2 = none
theorem cb_of {R : Room} {s : State} {args : Array Value} {own : String} {idx n d d' dn ds : Nat} {μ' : MI} (hts : ∀ w ∈ gw, w.before args s = true) (h : CLb own μ' n) (hl : Cond.methodLink own idx μ'.1 ∈ gw) (hd : d' < d) (h1 : d ≤ R.frames) (h2 : 60 * d ≤ R.locals) :
    CallB R s args own idx μ'.1 μ'.2.1 μ'.2.2.1 μ'.2.2.2 (.code μ'.1 μ'.2.1 μ'.2.2.1 μ'.2.2.2 :: gw) (rmD d' dn ds) dn ds n :=
  callB_of n hts (gw_inb (fun _ h => h) h.1) rfl rfl rfl (hts _ h.2.1) (hts _ hl) h.2.2.1 ⟨by show d' + 1 ≤ _; omega, by have := h.2.2.2; show 8 + (μ'.2.2.1 + 11) + 60 * d' ≤ _; omega⟩
theorem ct_blind {K : CtxT} {nx : Nat} {M : Mm} {vs : List Value} : FrameBlind (va_Pc vs (fun U => Pw K nx M U.heap ∧ Kx K U ∧ K.1 ≤ U.heap.size)) := fun a U g mk h => ⟨h.1, h.2.1, h.2.2.1.same rfl, h.2.2.2⟩
section CALL
variable {E : EnvT} {K : CtxT} {μ : MI} {d : Nat} {f : Nat × Nat} {pc : Nat} {L : List (Option Value)} {st : List Value} {nx : Nat} {M : Mm} {k n : Nat} {Z : State → Prop}
/-- behind a call -/
theorem wp_back {Q' : Option Value → Mm → Prop} {dn' ds' : Nat} {a : Array Value} {st0 rest : List Value} {H : Heap} {locs : List Loc} {ls : Array Slot} (ok : Ok E K μ d f) (hP : Pw K nx M H) (hS : va_S (fun q : Nat => K.1 ≤ q) (es E).heap H locs) (hl : lR ls μ.2.2.1 L)
    (hr : va_Run (ep E) (el E) (ee E) (eR E) (es E) (em E) (ea E) (eb E) (eM E) (ec E) H locs k n dn' ds' (F0 (em E) pc ls st0) rest (Qc K (nx + dn') Q' a) (fun q : Nat => K.1 ≤ q))
    (kk : ∀ v M', Q' v M' → Wp E K μ d f (pc + 3) L (v.toList ++ rest) (nx + dn') M' (k + dn') (n + ds') Z) : W (ep E) (el E) (ee E) (eR E) (es E) (em E) (ea E) (eb E) (eM E) (ec E) H locs k n Z (F0 (em E) pc ls st0) := by
  intro T hT X
  obtain ⟨v, st₀, t, T', Lc, h0, X', hL, e1, e2, ⟨⟨v', M', hv, hq, hP', -⟩, hz, hk⟩, stp⟩ := hr T hT X
  cases hv
  rw [h0] at hz hk
  obtain ⟨t2, a1, b1⟩ := kk v M' hq ok T'.heap (locs ++ Lc) ls (by rw [e1]; exact hP') ⟨Nat.le_trans hS.1 (by rw [e1]; exact hz), fun q h1 h2 => by rw [e1, hk q (Nat.lt_of_lt_of_le h1 hS.1) h2]; exact hS.2.1 q h1 h2, fun q hq => by
    rcases List.mem_append.mp hq with h | h
    · exact hS.2.2 q h
    · exact hL q h⟩ hl T' rfl X'
  exact ⟨t2, stp t2 a1, b1⟩
theorem wp_pre {vs : List Value} {s : State} {H : Heap} {H0 : Heap} {locs : List Loc} (hK : Kx K s) (hP : Pw K nx M H) : ∀ U : State, U.heap = H → s.WarmedH U.vm → va_Pc vs (fun U => Pw K nx M U.heap ∧ Kx K U ∧ K.1 ≤ U.heap.size) vs.toArray U :=
  fun U hU hW => ⟨rfl, by rw [hU]; exact hP, hK.warm hW, by rw [hU, hP.2]; exact Nat.le_add_right _ _⟩
theorem wp_callV {Q' : Option Value → Mm → Prop} {d' dn' ds' idx nn a ci : Nat} {μ' : MI} {As rest : List Value} {q : vw_C} (hd : decode μ.2.1 pc = .ok (.invokevirtual idx, 3)) (hw : CLv μ.1.cls idx μ' nn) (hC : Ct (el E) K d' μ' (.ref (K.1 + a) :: As) nx M dn' ds' Q') (ha : lk a = (ci, 0)) (hc : vwCl[ci]? = some q) (hq : q.1 = μ'.1.cls) (hn : a < nx)
    (hst : st = As.reverse ++ .ref (K.1 + a) :: rest) (hlen : As.length = nn) (hcat : (rest.map fun v => v.category).sum ≤ 8) (hdd : d' < d) (hrm : k + dn' ≤ f.1 ∧ n + ds' ≤ f.2) (kk : ∀ v M', Q' v M' → Wp E K μ d f (pc + 3) L (v.toList ++ rest) (nx + dn') M' (k + dn') (n + ds') Z) : Wp E K μ d f pc L st nx M k n Z := by
  intro ok H locs ls hP hS hl
  have ok' := ok
  obtain ⟨hx, hb, hml, hown, hts, -, -, hK, -, hfr, hlo, hcs, hss, -⟩ := ok'
  subst hst
  have hrec := va_recv hK.1 hP.1 hc ((wo_get hn).trans (congrArg (fun e => some (K.1 + a, e)) (ce_obj ha (cl_lt hc))))
  refine wp_back ok hP hS hl (va_runV (As := As) (rest := rest) ⟨hx, hb, hml, hown, hts⟩ hC ⟨cb_of hts hw.1 hw.2.1 hdd hfr hlo, hts _ hw.2.2.1, hts _ hw.2.2.2⟩ ⟨ct_blind, ?_, wp_pre (H0 := H) (locs := locs) hK hP⟩ rfl hlen hl.size rfl (lv_room hcat) hd ⟨Nat.le_trans hrm.1 hcs, Nat.le_trans hrm.2 hss⟩) kk
  rw [← hq]
  exact hrec
theorem wp_callS {Q' : Option Value → Mm → Prop} {d' dn' ds' idx nn : Nat} {μ' : MI} {As rest : List Value} (hd : decode μ.2.1 pc = .ok (.invokestatic idx, 3)) (hw : CLs μ.1.cls idx μ' nn) (hC : Ct (el E) K d' μ' As nx M dn' ds' Q')
    (hst : st = As.reverse ++ rest) (hlen : As.length = nn) (hcat : (rest.map fun v => v.category).sum ≤ 8) (hdd : d' < d) (hrm : k + dn' ≤ f.1 ∧ n + ds' ≤ f.2) (kk : ∀ v M', Q' v M' → Wp E K μ d f (pc + 3) L (v.toList ++ rest) (nx + dn') M' (k + dn') (n + ds') Z) : Wp E K μ d f pc L st nx M k n Z := by
  intro ok H locs ls hP hS hl
  have ok' := ok
  obtain ⟨hx, hb, hml, hown, hts, -, -, hK, -, hfr, hlo, hcs, hss, -⟩ := ok'
  subst hst
  exact wp_back ok hP hS hl (va_runS (As := As) (rest := rest) ⟨hx, hb, hml, hown, hts⟩ hC ⟨cb_of hts hw.1 hw.2.1 hdd hfr hlo, hts _ hw.2.2⟩ ⟨ct_blind, wp_pre (H0 := H) (locs := locs) hK hP⟩ rfl hlen hl.size rfl (lv_room hcat) hd ⟨Nat.le_trans hrm.1 hcs, Nat.le_trans hrm.2 hss⟩) kk
theorem wp_callI {Q' : Option Value → Mm → Prop} {d' dn' ds' idx nn b : Nat} {μ' : MI} {As rest : List Value} (hd : decode μ.2.1 pc = .ok (.invokespecial idx, 3)) (hw : CLi μ.1.cls idx μ' nn) (hC : Ct (el E) K d' μ' (.ref b :: As) nx M dn' ds' Q')
    (hst : st = As.reverse ++ .ref b :: rest) (hlen : As.length = nn) (hcat : (rest.map fun v => v.category).sum ≤ 8) (hdd : d' < d) (hrm : k + dn' ≤ f.1 ∧ n + ds' ≤ f.2) (kk : ∀ v M', Q' v M' → Wp E K μ d f (pc + 3) L (v.toList ++ rest) (nx + dn') M' (k + dn') (n + ds') Z) : Wp E K μ d f pc L st nx M k n Z := by
  intro ok H locs ls hP hS hl
  have ok' := ok
  obtain ⟨hx, hb, hml, hown, hts, -, -, hK, -, hfr, hlo, hcs, hss, -⟩ := ok'
  subst hst
  have cb := cb_of (dn := dn') (ds := ds') hts hw.1 hw.2.1 hdd hfr hlo
  unfold Ct at hC
  rw [hw.2.2.2.2] at cb hC
  exact wp_back ok hP hS hl (va_runI (As := As) (rest := rest) ⟨hx, hb, hml, hown, hts⟩ hC ⟨cb, hw.2.2.2.1, hts _ hw.2.2.1⟩ ⟨ct_blind, wp_pre (H0 := H) (locs := locs) hK hP⟩ rfl hlen hl.size rfl (lv_room hcat) hd ⟨Nat.le_trans hrm.1 hcs, Nat.le_trans hrm.2 hss⟩) kk
theorem wp_callSN {Q' : Option Value → Mm → Prop} {d' dn' ds' idx nn : Nat} {host : String} {μ' : MI} {As rest : List Value} (hd : decode μ.2.1 pc = .ok (.invokestatic idx, 3)) (hw : CLsN μ.1.cls idx μ' nn host) (hC : Ct (el E) K d' μ' As nx M dn' ds' Q')
    (hst : st = As.reverse ++ rest) (hlen : As.length = nn) (hcat : (rest.map fun v => v.category).sum ≤ 8) (hdd : d' < d) (hrm : k + dn' ≤ f.1 ∧ n + ds' ≤ f.2) (kk : ∀ v M', Q' v M' → Wp E K μ d f (pc + 3) L (v.toList ++ rest) (nx + dn') M' (k + dn') (n + ds') Z) : Wp E K μ d f pc L st nx M k n Z := by
  intro ok H locs ls hP hS hl
  have ok' := ok
  obtain ⟨hx, hb, hml, hown, hts, -, -, hK, -, hfr, hlo, hcs, hss, -⟩ := ok'
  subst hst
  have hm := hw.1.2.2.2
  exact wp_back ok hP hS hl (va_runSN (As := As) (rest := rest) (host := host) ⟨hx, hb, hml, hown, hts⟩ hC ⟨va_cnB nn hts (gw_inb (fun _ h => h) hw.1.1) rfl rfl rfl (hK.2.1 _ hw.2.1) (hts _ hw.1.2.1) hw.1.2.2.1 ⟨by show d' + 1 ≤ _; omega, by show 8 + (μ'.2.2.1 + 11) + 60 * d' ≤ _; omega⟩, hts _ hw.2.2, trivial⟩ ⟨ct_blind, wp_pre (H0 := H) (locs := locs) hK hP⟩ rfl hlen hl.size rfl (lv_room hcat) hd ⟨Nat.le_trans hrm.1 hcs, Nat.le_trans hrm.2 hss⟩) kk
theorem wp_callIN {Q' : Option Value → Mm → Prop} {d' dn' ds' idx nn b : Nat} {host : String} {μ' : MI} {As rest : List Value} (hd : decode μ.2.1 pc = .ok (.invokespecial idx, 3)) (hw : CLiN μ.1.cls idx μ' nn host) (hC : Ct (el E) K d' μ' (.ref b :: As) nx M dn' ds' Q')
    (hst : st = As.reverse ++ .ref b :: rest) (hlen : As.length = nn) (hcat : (rest.map fun v => v.category).sum ≤ 8) (hdd : d' < d) (hrm : k + dn' ≤ f.1 ∧ n + ds' ≤ f.2) (kk : ∀ v M', Q' v M' → Wp E K μ d f (pc + 3) L (v.toList ++ rest) (nx + dn') M' (k + dn') (n + ds') Z) : Wp E K μ d f pc L st nx M k n Z := by
  intro ok H locs ls hP hS hl
  have ok' := ok
  obtain ⟨hx, hb, hml, hown, hts, -, -, hK, -, hfr, hlo, hcs, hss, -⟩ := ok'
  subst hst
  have hm := hw.1.2.2.2
  have cb := va_cnB (R := eR E) (rm := rmD d' dn' ds') (own := μ.1.cls) (host := host) (index := idx) nn hts (gw_inb (fun _ h => h) hw.1.1) rfl rfl rfl (hK.2.1 _ hw.2.1) (hts _ hw.1.2.1) hw.1.2.2.1 ⟨by show d' + 1 ≤ _; omega, by show 8 + (μ'.2.2.1 + 11) + 60 * d' ≤ _; omega⟩
  unfold Ct at hC
  rw [hw.2.2.2.2] at cb hC
  exact wp_back ok hP hS hl (va_runIN (As := As) (rest := rest) (host := host) ⟨hx, hb, hml, hown, hts⟩ hC ⟨cb, hw.2.2.2.1, hts _ hw.2.2.1⟩ ⟨ct_blind, wp_pre (H0 := H) (locs := locs) hK hP⟩ rfl hlen hl.size rfl (lv_room hcat) hd ⟨Nat.le_trans hrm.1 hcs, Nat.le_trans hrm.2 hss⟩) kk
theorem wp_objInit {idx a : Nat} {rest : List Value} (hd : decode μ.2.1 pc = .ok (.invokespecial idx, 3)) (hw : Cond.methodLink μ.1.cls idx objectInit ∈ gw) (hcat : (rest.map fun v => v.category).sum ≤ 8) (hdd : 0 < d) (kk : Wp E K μ d f (pc + 3) L rest nx M k n Z) : Wp E K μ d f pc L (.ref a :: rest) nx M k n Z := by
  intro ok H locs ls hP hS hl
  have ok' := ok
  obtain ⟨hx, hb, hml, hown, hts, -, -, hK, -, hfr, hlo, hcs, hss, -⟩ := ok'
  refine W.objInit hx hb hown (hts _ hw) (hts _ (gw_of (by decide +kernel) rfl)) (hts _ (gw_of (by decide +kernel) rfl)) rfl (by rw [hml]; exact hl.size) rfl hd (by omega) ?_ (kk ok H locs ls hP hS hl)
  show 2 * 0 + _ + 12 ≤ _
  omega
/-! making -/
theorem Pw.grow {m : Nat} {M' : Mm} {H H1 : Heap} (hP : Pw K nx M H) (z : H1.size = K.1 + (nx + m)) (oq : ∀ q : Nat, q < K.1 + nx → H1[q]? = H[q]?) (ho : ∀ b, b < nx → ce K M' b = ce K M b) (he : ∀ j, j < m → va_at K.2.1 vwCl (K.1 + (nx + j), ce K M' (nx + j)) H1) : Pw K (nx + m) M' H1 := by
  refine ⟨fun i q hi => ?_, z⟩
  obtain ⟨hn, rfl⟩ := wo_some hi
  rcases Nat.lt_or_ge i nx with h | h
  · rw [ho i h]
    exact (hP.1 i _ (wo_get h)).kept (oq _ (by show K.1 + i < _; omega))
  · have := he (i - nx) (by omega)
    rwa [show nx + (i - nx) = i by omega] at this
theorem va_S.grow {A : Nat → Prop} {H0 H H1 : Heap} {locs : List Loc} (hS : va_S A H0 H locs) (z : H.size ≤ H1.size) (oq : ∀ q : Nat, q < H.size → H1[q]? = H[q]?) : va_S A H0 H1 locs :=
  ⟨Nat.le_trans hS.1 z, fun x h1 h2 => (oq x (Nat.lt_of_lt_of_le h1 hS.1)).trans (hS.2.1 x h1 h2), hS.2.2⟩
/-- the memory with zeros in the cell a -/
def wZ (M : Mm) (a : Nat) : Mm := (fun b j => if b = a then 0 else M.1 b j, fun b j => if b = a then 0 else M.2.1 b j, fun b j => if b = a then none else M.2.2 b j)
theorem wZ_ne {b a : Nat} (h : b ≠ a) : ce K (wZ M a) b = ce K M b := ce_congr (fun j => by simp [wZ, h]) (fun j => by simp [wZ, h]) (fun j => by simp [wZ, h])
theorem fvs_zero (b : Nat) (M : Mm) (a : Nat) {C : String} {T : u_T} {N ci : Nat} (h : vwCl[ci]? = some (C, T, N)) : ∀ j, j < N → defaultValue (cl_t ci j) = vp_V (fvs b (wZ M a) a 0 (tcs ci)) j := by
  intro j hj
  have hc := cl_lt h
  have hj31 : j < 31 := Nat.lt_of_lt_of_le hj (cl_n31 h)
  have hl : j < (tcs ci).length := by rw [cl_len h]; exact hj
  obtain ⟨t, ht⟩ : ∃ t, (tcs ci)[j]? = some t := ⟨_, List.getElem?_eq_getElem hl⟩
  have e : vp_V (fvs b (wZ M a) a 0 (tcs ci)) j = fv b (wZ M a) a j t := by
    unfold vp_V
    rw [List.getD_eq_getElem?_getD, fvs_get, ht, Nat.zero_add]
    rfl
  rw [e]
  obtain ⟨h0, h1, h2, h3⟩ := cl_ty0 ci hc j hj31
  rcases h3 t ht with rfl | rfl | rfl
  · rw [h0 ht]; simp [fv, wZ, defaultValue]
  · rw [h1 ht]; simp [fv, wZ, defaultValue]
  · have := h2 ht
    cases hty : cl_t ci j <;> rw [hty] at this <;> first | (simp [fv, wZ, defaultValue, va_rf]; done) | cases this
theorem wp_new {idx ci : Nat} {C : String} {T : u_T} {N : Nat} (hd : decode μ.2.1 pc = .ok (.new idx, 3)) (hc : vwCl[ci]? = some (C, T, N)) (hw1 : Cond.classLink μ.1.cls idx C ∈ gw) (hw2 : Cond.instantiable C N ∈ gw) (hw3 : Cond.initialized C ∈ gw) (ha : lk nx = (ci, 0)) (hrm : k + 1 ≤ f.1 ∧ n + N ≤ f.2)
    (kk : Wp E K μ d f (pc + 3) L (.ref (K.1 + nx) :: st) (nx + 1) (wZ M nx) (k + 1) (n + N) Z) : Wp E K μ d f pc L st nx M k n Z := by
  intro ok H locs ls hP hS hl
  have ok' := ok
  obtain ⟨hx, hb, hml, hown, hts, -, -, hK, -, hfr, hlo, hcs, hss, -⟩ := ok'
  have hKn := hK.1.1 ci _ hc
  refine W.newcK hx hb hown (hts _ hw1) (hts _ hw2) (hts _ hw3) rfl hd (Nat.le_trans hrm.1 hcs) (Nat.le_trans hrm.2 hss) hKn.2.1 hP.2 fun H1 kC hkC e1 z1 o1 => ?_
  refine kk ok H1 locs ls (hP.grow (m := 1) (by omega) o1 (fun b hb => wZ_ne (by omega)) (fun j hj => ?_)) (hS.grow (by rw [z1, hP.2]; omega) (fun q hq => o1 q (by rw [← hP.2]; exact hq))) hl
  have : j = 0 := by omega
  subst this
  rw [Nat.add_zero, ce_obj ha (cl_lt hc)]
  exact ⟨_, hc, (u_born (cl_t ci) hts (cl_ws hc) hKn hkC e1 (cl_tok hc)).to (fun j hj => fvs_zero _ _ _ hc j hj)⟩
theorem wp_newI {N : Nat} {x : Int32} (hd : decode μ.2.1 pc = .ok (.newarray .int, 2)) (hx : ¬ x < 0) (hN : x.toNatClampNeg = N) (hN2 : N ≤ 100000) (ha : lk nx = (9, N)) (hrm : k + 1 ≤ f.1 ∧ n + N ≤ f.2) (hw : Cond.arrayClass .int ∈ gw)
    (kk : Wp E K μ d f (pc + 2) L (.ref (K.1 + nx) :: st) (nx + 1) (wZ M nx) (k + 1) (n + N) Z) : Wp E K μ d f pc L (.int x :: st) nx M k n Z := by
  intro ok H locs ls hP hS hl
  have ok' := ok
  obtain ⟨hex, hb, hml, hown, hts, -, -, hK, -, hfr, hlo, hcs, hss, -⟩ := ok'
  refine va_newaK (atype := .int) hex hb (hts _ hw) rfl hd rfl hx hN (by show N * 4 ≤ _; omega) (Nat.le_trans hrm.1 hcs) (Nat.le_trans hrm.2 hss) hP.2 fun H1 cA e1 z1 o1 _ hnm => ?_
  have hcA : cA = K.2.2 9 := Option.some.inj (hnm.symm.trans (hK.1.2 0 _ rfl).2)
  subst hcA
  refine kk ok H1 locs ls (hP.grow (m := 1) (by omega) o1 (fun b hb => wZ_ne (by omega)) (fun j hj => ?_)) (hS.grow (by rw [z1, hP.2]; omega) (fun q hq => o1 q (by rw [← hP.2]; exact hq))) hl
  have : j = 0 := by omega
  subst this
  rw [Nat.add_zero, ce_int ha]
  show H1[K.1 + nx]? = some (vp_cell _ _)
  rw [e1, vp_cell_i]
  simp [wZ]
  rfl
theorem wp_newZ {N : Nat} {x : Int32} (hd : decode μ.2.1 pc = .ok (.newarray .boolean, 2)) (hx : ¬ x < 0) (hN : x.toNatClampNeg = N) (hN2 : N ≤ 100000) (ha : lk nx = (10, N)) (hrm : k + 1 ≤ f.1 ∧ n + N ≤ f.2) (hw : Cond.arrayClass .boolean ∈ gw)
    (kk : Wp E K μ d f (pc + 2) L (.ref (K.1 + nx) :: st) (nx + 1) (wZ M nx) (k + 1) (n + N) Z) : Wp E K μ d f pc L (.int x :: st) nx M k n Z := by
  intro ok H locs ls hP hS hl
  have ok' := ok
  obtain ⟨hex, hb, hml, hown, hts, -, -, hK, -, hfr, hlo, hcs, hss, -⟩ := ok'
  refine va_newaK (atype := .boolean) hex hb (hts _ hw) rfl hd rfl hx hN (by show N * 1 ≤ _; omega) (Nat.le_trans hrm.1 hcs) (Nat.le_trans hrm.2 hss) hP.2 fun H1 cA e1 z1 o1 _ hnm => ?_
  have hcA : cA = K.2.2 10 := Option.some.inj (hnm.symm.trans (hK.1.2 1 _ rfl).2)
  subst hcA
  refine kk ok H1 locs ls (hP.grow (m := 1) (by omega) o1 (fun b hb => wZ_ne (by omega)) (fun j hj => ?_)) (hS.grow (by rw [z1, hP.2]; omega) (fun q hq => o1 q (by rw [← hP.2]; exact hq))) hl
  have : j = 0 := by omega
  subst this
  rw [Nat.add_zero, ce_boo ha]
  show H1[K.1 + nx]? = some (vp_cell _ _)
  rw [e1, vp_cell_i]
  simp [wZ]
  rfl
theorem wp_newT {idx N : Nat} {x : Int32} (hd : decode μ.2.1 pc = .ok (.anewarray idx, 3)) (hw : Cond.classLink μ.1.cls idx "HoundLicence$Town" ∈ gw) (hx : ¬ x < 0) (hN : x.toNatClampNeg = N) (hN2 : N ≤ 100000) (ha : lk nx = (11, N)) (hrm : k + 1 ≤ f.1 ∧ n + N ≤ f.2)
    (kk : Wp E K μ d f (pc + 3) L (.ref (K.1 + nx) :: st) (nx + 1) (wZ M nx) (k + 1) (n + N) Z) : Wp E K μ d f pc L (.int x :: st) nx M k n Z := by
  intro ok H locs ls hP hS hl
  have ok' := ok
  obtain ⟨hex, hb, hml, hown, hts, -, -, hK, -, hfr, hlo, hcs, hss, -⟩ := ok'
  subst hN
  refine W.anew hex hb hown (hts _ hw) (ao_vm (A := #[]) rfl (hK.2.2 _ (by simp [aoT]))) rfl hd rfl hx (by omega) (Nat.le_trans hrm.1 hcs) (Nat.le_trans hrm.2 hss) fun cA kA comp f1 f2 f3 f4 => ?_
  obtain ⟨kA', comp', g1, g2, g3, g4⟩ := (hK.1.2 2 _ rfl).2
  have hcA : cA = K.2.2 11 := Option.some.inj (f1.symm.trans g4)
  subst hcA
  generalize hH1 : H.push ({ cls := K.2.2 11, slots := Array.replicate x.toNatClampNeg .null, vm := .none } : Cell) = H1
  have z1 : H1.size = H.size + 1 := by rw [← hH1, Array.size_push]
  have e1 : H1[H.size]? = some (arrV (K.2.2 11) x.toNatClampNeg (fun _ => .null)) := by rw [← hH1, Array.getElem?_push_size, ← arrV_new]
  have o1 : ∀ q : Nat, q < H.size → H1[q]? = H[q]? := fun q hq => by rw [← hH1, Array.getElem?_push, if_neg (Nat.ne_of_lt hq)]
  rw [hP.2] at e1 z1 o1 ⊢
  refine kk ok H1 locs ls (hP.grow (m := 1) (by omega) o1 (fun b hb => wZ_ne (by omega)) (fun j hj => ?_)) (hS.grow (by rw [z1, hP.2]; omega) (fun q hq => o1 q (by rw [← hP.2]; exact hq))) hl
  have : j = 0 := by omega
  subst this
  rw [Nat.add_zero, ce_ref ha (by decide)]
  show H1[K.1 + nx]? = some (vp_cell _ _)
  rw [e1, vp_cell_q]
  simp [wZ, va_rf]
/-- a town into an array of towns -/
theorem wp_aastT {a b N : Nat} {i : Int32} (hd : decode μ.2.1 pc = .ok (.aastore, 1)) (ha : lk a = (11, N)) (hn : a < nx) (hb : lk b = (6, 0)) (hbn : b < nx) (hin : vp_in i N) (kk : Wp E K μ d f (pc + 1) L st nx (wR M a i.toNatClampNeg (some b)) k n Z) : Wp E K μ d f pc L (.ref (K.1 + b) :: .int i :: .ref (K.1 + a) :: st) nx M k n Z := by
  intro ok H locs ls hP hS hl
  have hKx := ok.2.2.2.2.2.2.2.1.1
  have hlt : i.toNatClampNeg < N := Nat.not_le.mp fun q => hin (Or.inr q)
  have h0 : ¬ i < 0 := fun q => hin (Or.inl q)
  have hA := hP.at hn (ce_ref (K := K) (M := M) ha (by decide))
  obtain ⟨r', hr', cellV, g1, g2, g3, -⟩ := hP.at hbn (ce_obj (K := K) (M := M) hb (by decide))
  have hcls := (hKx.1 6 _ rfl).2
  obtain ⟨kA, comp, k1, k2, k3, -⟩ := (hKx.2 2 _ rfl).2
  have hcomp : comp = K.2.1.1 6 := Option.some.inj (k3.symm.trans hcls.1)
  subst hcomp
  obtain ⟨kC, hkC, -⟩ := hcls.2
  refine W.aast ok.1 ok.2.1 hA (fun q h => by cases h) (fun h => by cases h) k1 k2 rfl hkC ⟨h0, by show _ < (arrV _ _ _).slots.size; rw [arrV_size]; exact hlt⟩ g1 (fun q h => by rw [g3] at h; cases h) (by rw [g2]; exact hkC) (by rw [g2]; exact va_assign hcls) rfl rfl hd fun H1 e z oq => ?_
  refine kk ok H1 _ ls (hP.store (e := .inl (K.2.2 11, N, .inr (.inr (.inr (.inr (va_up (fun j => (M.2.2 a j).map (fun x => K.1 + x)) i.toNatClampNeg (some (K.1 + b)))))))) ?_ ?_ z oq (fun b hb => wR_ne hb)) (hS.put z oq (Nat.le_add_right _ _)) hl
  · show H1[K.1 + a]? = some (vp_cell _ _)
    rw [e, vp_cell_q, vp_cell_q, arrV_store]
    congr 2
    funext q
    by_cases hq : q = i.toNatClampNeg
    · subst hq
      simp [updV, va_up, va_rf]
    · simp [updV, va_up, hq]
  · rw [ce_ref ha (by decide)]
    congr 7
    funext j
    by_cases hj : j = i.toNatClampNeg
    · subst hj
      simp [wR, va_up]
    · simp [wR, va_up, hj]
end CALL
