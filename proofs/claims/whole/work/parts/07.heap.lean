/-! the classes' words, types, names, by the class's number -/
def cl_t (ci : Nat) : Nat → FieldType := match ci with
  | 0 => tyX0
  | 1 => tyX1
  | 2 => tyX2
  | 3 => tyX3
  | 4 => tyX5
  | 5 => tyX6
  | 6 => tyX7
  | 7 => tyX8
  | _ => tyX9
theorem cl_lt {ci : Nat} {q : vw_C} (h : vwCl[ci]? = some q) : ci < 9 := (List.getElem?_eq_some_iff.mp h).1
theorem cl_w0 : ∀ q ∈ vwCl, ∀ w ∈ u_ws q.1 q.2.1 q.2.2, w ∈ lw_tbl ∧ goodWord w = true := by decide +kernel
theorem cl_ws {ci : Nat} {C : String} {T : u_T} {N : Nat} (h : vwCl[ci]? = some (C, T, N)) : ∀ w ∈ u_ws C T N, w ∈ gw := fun w hw => by
  have := cl_w0 _ (List.mem_of_getElem? h) w hw
  exact gw_of this.1 this.2
theorem cl_tok {ci : Nat} {C : String} {T : u_T} {N : Nat} (h : vwCl[ci]? = some (C, T, N)) : ∀ k, k < N → parseFieldDescriptor (T k).2.2.1 = some (cl_t ci k) := by
  match ci, h with
  | 0, h => cases h; exact tyX0_ok
  | 1, h => cases h; exact tyX1_ok
  | 2, h => cases h; exact tyX2_ok
  | 3, h => cases h; exact tyX3_ok
  | 4, h => cases h; exact tyX5_ok
  | 5, h => cases h; exact tyX6_ok
  | 6, h => cases h; exact tyX7_ok
  | 7, h => cases h; exact tyX8_ok
  | 8, h => cases h; exact tyX9_ok
  | n + 9, h => exact absurd (cl_lt h) (by omega)
theorem cl_nm {ci : Nat} {C : String} {T : u_T} {N : Nat} (h : vwCl[ci]? = some (C, T, N)) : ∀ a, a < N → ∀ b, b < N → a ≠ b → (T a).2.1 ≠ (T b).2.1 := by
  match ci, h with
  | 0, h => cases h; exact nmX0
  | 1, h => cases h; exact nmX1
  | 2, h => cases h; exact nmX2
  | 3, h => cases h; exact nmX3
  | 4, h => cases h; exact nmX5
  | 5, h => cases h; exact nmX6
  | 6, h => cases h; exact nmX7
  | 7, h => cases h; exact nmX8
  | 8, h => cases h; exact nmX9
  | n + 9, h => exact absurd (cl_lt h) (by omega)
theorem cl_len {ci : Nat} {C : String} {T : u_T} {N : Nat} (h : vwCl[ci]? = some (C, T, N)) : (tcs ci).length = N := by
  match ci, h with
  | 0, h => cases h; rfl
  | 1, h => cases h; rfl
  | 2, h => cases h; rfl
  | 3, h => cases h; rfl
  | 4, h => cases h; rfl
  | 5, h => cases h; rfl
  | 6, h => cases h; rfl
  | 7, h => cases h; rfl
  | 8, h => cases h; rfl
  | n + 9, h => exact absurd (cl_lt h) (by omega)
def isRefT : FieldType → Bool
  | .object _ => true
  | .array _ => true
  | _ => false
theorem cl_ty0 : ∀ ci, ci < 9 → ∀ k, k < 31 → ((tcs ci)[k]? = some 0 → cl_t ci k = .int) ∧ ((tcs ci)[k]? = some 1 → cl_t ci k = .long) ∧ ((tcs ci)[k]? = some 2 → isRefT (cl_t ci k) = true) ∧ ∀ t, (tcs ci)[k]? = some t → t = 0 ∨ t = 1 ∨ t = 2 := by
  intro ci hci k hk
  have h : ∀ ci, ci < 9 → ∀ k, k < 31 → ((tcs ci)[k]? = some 0 → cl_t ci k = .int) ∧ ((tcs ci)[k]? = some 1 → cl_t ci k = .long) ∧ ((tcs ci)[k]? = some 2 → isRefT (cl_t ci k) = true) ∧ ((tcs ci)[k]? = none ∨ (tcs ci)[k]? = some 0 ∨ (tcs ci)[k]? = some 1 ∨ (tcs ci)[k]? = some 2) := by decide +kernel
  obtain ⟨h1, h2, h3, h4⟩ := h ci hci k hk
  refine ⟨h1, h2, h3, fun t ht => ?_⟩
  rw [ht] at h4
  rcases h4 with q | q | q | q
  · cases q
  · exact Or.inl (Option.some.inj q)
  · exact Or.inr (Or.inl (Option.some.inj q))
  · exact Or.inr (Or.inr (Option.some.inj q))
theorem cl_n31 {ci : Nat} {C : String} {T : u_T} {N : Nat} (h : vwCl[ci]? = some (C, T, N)) : N ≤ 31 := by
  match ci, h with
  | 0, h => cases h; decide
  | 1, h => cases h; decide
  | 2, h => cases h; decide
  | 3, h => cases h; decide
  | 4, h => cases h; decide
  | 5, h => cases h; decide
  | 6, h => cases h; decide
  | 7, h => cases h; decide
  | 8, h => cases h; decide
  | n + 9, h => exact absurd (cl_lt h) (by omega)
/-- the field at an entry of a class file's pool: kind, place, type, final or not -/
def FL (own : String) (idx ci k t : Nat) (fin : Bool) : Prop := ∃ (C : String) (T : u_T) (N : Nat), vwCl[ci]? = some (C, T, N) ∧ k < N ∧ (T k).2.2.2 = fin ∧ Cond.fieldLink own idx (T k).1 (T k).2.1 (T k).2.2.1 ∈ gw ∧ (tcs ci)[k]? = some t
/-- it is declared in the class own -/
def FD (own : String) (ci k : Nat) : Prop := ∃ q : vw_C, vwCl[ci]? = some q ∧ (q.2.1 k).1 = own
theorem ce_obj {K : CtxT} {M : Mm} {a ci : Nat} (h : lk a = (ci, 0)) (hc : ci < 9) : ce K M a = .inr (ci, fvs K.1 M a 0 (tcs ci)) := by
  unfold ce
  rw [h, if_pos hc]
theorem ce_int {K : CtxT} {M : Mm} {a n : Nat} (h : lk a = (9, n)) : ce K M a = .inl (K.2.2 9, n, .inl (M.1 a)) := by
  unfold ce
  rw [h, if_neg (show ¬ (9 : Nat) < 9 by decide), if_pos (show (9 : Nat) < 11 by decide)]
theorem ce_boo {K : CtxT} {M : Mm} {a n : Nat} (h : lk a = (10, n)) : ce K M a = .inl (K.2.2 10, n, .inl (M.1 a)) := by
  unfold ce
  rw [h, if_neg (show ¬ (10 : Nat) < 9 by decide), if_pos (show (10 : Nat) < 11 by decide)]
theorem ce_ref {K : CtxT} {M : Mm} {a kd n : Nat} (h : lk a = (kd, n)) (hk : 11 ≤ kd) : ce K M a = .inl (K.2.2 kd, n, .inr (.inr (.inr (.inr (fun j => (M.2.2 a j).map (fun x => K.1 + x)))))) := by
  unfold ce
  rw [h, if_neg (by show ¬ kd < 9; omega), if_neg (by show ¬ kd < 11; omega)]
theorem Pw.at {K : CtxT} {nx : Nat} {M : Mm} {H : Heap} (hP : Pw K nx M H) {a : Nat} (ha : a < nx) {e : va_E} (he : ce K M a = e) : va_at K.2.1 vwCl (K.1 + a, e) H := by
  subst he
  exact hP.1 a _ (wo_get ha)
/-- one cell changed, the others as they were -/
theorem Pw.store {K : CtxT} {nx : Nat} {M M' : Mm} {H H1 : Heap} {a : Nat} {e : va_E} (hP : Pw K nx M H) (he : va_at K.2.1 vwCl (K.1 + a, e) H1) (hM : ce K M' a = e) (z : H1.size = H.size) (oq : ∀ q : Nat, q ≠ K.1 + a → H1[q]? = H[q]?) (ho : ∀ b, b ≠ a → ce K M' b = ce K M b) : Pw K nx M' H1 := by
  refine ⟨fun i q hi => ?_, by rw [z]; exact hP.2⟩
  obtain ⟨hn, rfl⟩ := wo_some hi
  by_cases h : i = a
  · subst h
    rw [hM]
    exact he
  · rw [ho i h]
    exact (hP.1 i _ (wo_get hn)).kept (oq _ (by show K.1 + i ≠ K.1 + a; omega))
theorem upd_wI (M : Mm) (a k : Nat) (x : Int32) : (wI M a k x).1 a = upd (M.1 a) k x := by
  funext j
  simp [wI, upd]
theorem wI_ne {K : CtxT} {M : Mm} {a k b : Nat} {x : Int32} (h : b ≠ a) : ce K (wI M a k x) b = ce K M b := ce_congr (fun j => by simp [wI, h]) (fun j => rfl) (fun j => rfl)
theorem wJ_ne {K : CtxT} {M : Mm} {a k b : Nat} {x : Int64} (h : b ≠ a) : ce K (wJ M a k x) b = ce K M b := ce_congr (fun j => rfl) (fun j => by simp [wJ, h]) (fun j => rfl)
theorem wR_ne {K : CtxT} {M : Mm} {a k b : Nat} {x : Option Nat} (h : b ≠ a) : ce K (wR M a k x) b = ce K M b := ce_congr (fun j => rfl) (fun j => rfl) (fun j => by simp [wR, h])
theorem wC_ne {K : CtxT} {M : Mm} {a0 sp a dp n b : Nat} (h : b ≠ a) : ce K (wC M a0 sp a dp n) b = ce K M b := ce_congr (fun j => by simp [wC, h]) (fun j => rfl) (fun j => rfl)
section HEAP
variable {E : EnvT} {K : CtxT} {μ : MI} {d : Nat} {f : Nat × Nat} {pc : Nat} {L : List (Option Value)} {st : List Value} {nx : Nat} {M : Mm} {k n : Nat} {Z : State → Prop}
theorem Ok.A {E : EnvT} {K : CtxT} {μ : MI} {d : Nat} {f : Nat × Nat} (ok : Ok E K μ d f) : ∀ q : Nat, (es E).heap.size ≤ q → K.1 ≤ q := fun q h => Nat.le_trans ok.2.2.2.2.2.2.2.2.2.2.2.2.2 h
theorem wp_getf {a idx ci kf t : Nat} {fin : Bool} (hd : decode μ.2.1 pc = .ok (.getfield idx, 3)) (hf : FL μ.1.cls idx ci kf t fin) (ha : lk a = (ci, 0)) (hn : a < nx) (kk : Wp E K μ d f (pc + 3) L (fv K.1 M a kf t :: st) nx M k n Z) : Wp E K μ d f pc L (.ref (K.1 + a) :: st) nx M k n Z := by
  intro ok H locs ls hP hS hl
  obtain ⟨C, T, N, h1, h2, -, h3, h5⟩ := hf
  refine va_get (C := C) (T := T) (N := N) (ci := ci) ok.1 ok.2.1 ok.2.2.2.2.1 (cl_ws h1) ok.2.2.2.1 ok.2.2.2.2.2.2.2.1.1 hP.1 a ((wo_get hn).trans (congrArg (fun e => some (K.1 + a, e)) (ce_obj ha (cl_lt h1)))) h1 kf h2 (ok.2.2.2.2.1 _ h3) (fun x hx => hx) (v := fv K.1 M a kf t) ?_ hd (kk ok H locs ls hP hS hl)
  rw [fvs_get, h5, Nat.zero_add]
  rfl
/-- a store into a field, of any type: M' is M but for that place -/
theorem wp_putAny {a idx ci kf t : Nat} {fin : Bool} {v : Value} {M' : Mm} (hd : decode μ.2.1 pc = .ok (.putfield idx, 3)) (hf : FL μ.1.cls idx ci kf t fin) (hfin : fin = true → μ.1.name = "<init>" ∧ FD μ.1.cls ci kf) (ha : lk a = (ci, 0)) (hn : a < nx) (hty : ∀ ty : FieldType, ty = cl_t ci kf → narrow ty v = v ∧ fits ty v = true)
    (hs : (fvs K.1 M a 0 (tcs ci)).set kf v = fvs K.1 M' a 0 (tcs ci)) (ho : ∀ b, b ≠ a → ce K M' b = ce K M b) (kk : Wp E K μ d f (pc + 3) L st nx M' k n Z) : Wp E K μ d f pc L (v :: .ref (K.1 + a) :: st) nx M k n Z := by
  intro ok H locs ls hP hS hl
  obtain ⟨C, T, N, h1, h2, h6, h3, h5⟩ := hf
  have hts := ok.2.2.2.2.1
  have hKx := ok.2.2.2.2.2.2.2.1.1
  obtain ⟨nv, fv'⟩ := hty _ rfl
  have hap := va_apart (own := μ.1.cls) hts (cl_ws h1) (cl_t ci) (cl_tok h1) (cl_nm h1) hKx h1
  obtain ⟨r, g1, cell, q1, q2, q3, q4⟩ := hP.at hn (ce_obj ha (cl_lt h1))
  have hr : r = (C, T, N) := Option.some.inj (g1.symm.trans h1)
  subst hr
  obtain ⟨hSl, hfc, kC, hkC, hkind⟩ := hKx.1 ci _ h1
  obtain ⟨cf, kf', fi, fd, hi, hsl⟩ := hSl kf h2
  have hlay := hts _ (cl_ws h1 _ (u_in_lay h2))
  have hst := (u_facts hfc hkC (u_lays hts (cl_ws h1) h2) hi).1
  have hl5 : kf < (fvs K.1 M a 0 (tcs ci)).length := by rw [fvs_len]; exact (List.getElem?_eq_some_iff.mp h5).1
  have fin' : ∀ H' : Heap, H'[K.1 + a]? = some (cell.setSlot fd.slot v) → H'.size = H.size → (∀ q : Nat, q ≠ K.1 + a → H'[q]? = H[q]?) → Pw K nx M' H' ∧ va_S (fun q : Nat => K.1 ≤ q) (es E).heap H' (locs ++ [⟨K.1 + a, fd.slot⟩]) := by
    intro H' e1 e2 e3
    rw [hsl] at e1
    refine ⟨hP.store (e := .inr (ci, (fvs K.1 M a 0 (tcs ci)).set kf v)) ⟨_, h1, t_OB.to (V := updV (vp_V (fvs K.1 M a 0 (tcs ci))) kf v) ⟨_, e1, q2, q3, t_set q4 hap h2 v⟩ (fun j _ => vp_updV_set hl5 v j)⟩ ?_ e2 e3 ho, hS.put e2 e3 (Nat.le_add_right _ _)⟩
    rw [ce_obj ha (cl_lt h1), hs]
  cases fin with
  | false =>
    unfold u_lay at hlay
    rw [if_neg (by rw [h6]; decide)] at hlay
    have hh := u_store hfc hkC hkind hlay hi (cl_tok h1 kf h2) nv fv'
    exact W.putK ok.1 ok.2.1 (f := fd) ⟨ok.2.2.2.1, hts _ h3, ⟨_, _, _, hi⟩, hst⟩ (by rw [q2]; exact hh) q1 q3 (by rw [hsl]; exact k2_hasslot (q4 kf h2)) rfl rfl hd fun H' e1 e2 e3 => kk ok H' _ ls (fin' H' e1 e2 e3).1 (fin' H' e1 e2 e3).2 hl
  | true =>
    unfold u_lay at hlay
    rw [if_pos h6] at hlay
    have hcf : (em E).cls = cf := by
      obtain ⟨_, _, c', _, _, _, -, -, hf', -, -, -, hown2, -⟩ := Cond.laysFinal_spec hlay
      have e1 : c' = cf := by have := hi.symm.trans hf'; simp at this; exact this.1.symm
      obtain ⟨qd, hqd, hqo⟩ := (hfin rfl).2
      have e0 : (C, T, N) = qd := Option.some.inj (h1.symm.trans hqd)
      rw [show (T kf).1 = μ.1.cls by rw [← hqo, ← e0]] at hown2
      rw [← e1]; exact Option.some.inj (ok.2.2.2.1.symm.trans hown2)
    have hh := u_fits hfc hkC hkind (Or.inr hlay) hi (cl_tok h1 kf h2) nv fv'
    exact W.putFinK ok.1 ok.2.1 ok.2.2.2.1 (hts _ h3) hi hst hcf (ok.2.2.2.2.2.2.2.2.1.trans (hfin rfl).1) (by rw [q2]; exact hh) q1 q3 (by rw [hsl]; exact k2_hasslot (q4 kf h2)) rfl rfl hd fun H' e1 e2 e3 => kk ok H' _ ls (fin' H' e1 e2 e3).1 (fin' H' e1 e2 e3).2 hl
theorem FL.lt {own : String} {idx ci kf t : Nat} {fin : Bool} (hf : FL own idx ci kf t fin) : ci < 9 ∧ kf < 31 ∧ (tcs ci)[kf]? = some t := by
  obtain ⟨C, T, N, h1, h2, -, -, h5⟩ := hf
  exact ⟨cl_lt h1, Nat.lt_of_lt_of_le h2 (cl_n31 h1), h5⟩
theorem wp_putI {a idx ci kf : Nat} {fin : Bool} {x : Int32} (hd : decode μ.2.1 pc = .ok (.putfield idx, 3)) (hf : FL μ.1.cls idx ci kf 0 fin) (hfin : fin = true → μ.1.name = "<init>" ∧ FD μ.1.cls ci kf) (ha : lk a = (ci, 0)) (hn : a < nx) (kk : Wp E K μ d f (pc + 3) L st nx (wI M a kf x) k n Z) : Wp E K μ d f pc L (.int x :: .ref (K.1 + a) :: st) nx M k n Z := by
  obtain ⟨l1, l2, l3⟩ := hf.lt
  refine wp_putAny hd hf hfin ha hn (fun ty e => ?_) (fvs_set _ _ _ _ _ _ _ _ (fun t i hi => ?_) (fun t ht => ?_)) (fun b hb => wI_ne hb) kk
  · rw [e, (cl_ty0 ci l1 kf l2).1 l3]
    exact ⟨rfl, rfl⟩
  · simp [fv, wI, hi]
  · rw [l3] at ht
    cases ht
    simp [fv, wI]
theorem wp_putJ {a idx ci kf : Nat} {fin : Bool} {x : Int64} (hd : decode μ.2.1 pc = .ok (.putfield idx, 3)) (hf : FL μ.1.cls idx ci kf 1 fin) (hfin : fin = true → μ.1.name = "<init>" ∧ FD μ.1.cls ci kf) (ha : lk a = (ci, 0)) (hn : a < nx) (kk : Wp E K μ d f (pc + 3) L st nx (wJ M a kf x) k n Z) : Wp E K μ d f pc L (.long x :: .ref (K.1 + a) :: st) nx M k n Z := by
  obtain ⟨l1, l2, l3⟩ := hf.lt
  refine wp_putAny hd hf hfin ha hn (fun ty e => ?_) (fvs_set _ _ _ _ _ _ _ _ (fun t i hi => ?_) (fun t ht => ?_)) (fun b hb => wJ_ne hb) kk
  · rw [e, (cl_ty0 ci l1 kf l2).2.1 l3]
    exact ⟨rfl, rfl⟩
  · simp [fv, wJ, hi]
  · rw [l3] at ht
    cases ht
    simp [fv, wJ]
theorem wp_putR {a idx ci kf b : Nat} {fin : Bool} (hd : decode μ.2.1 pc = .ok (.putfield idx, 3)) (hf : FL μ.1.cls idx ci kf 2 fin) (hfin : fin = true → μ.1.name = "<init>" ∧ FD μ.1.cls ci kf) (ha : lk a = (ci, 0)) (hn : a < nx) (kk : Wp E K μ d f (pc + 3) L st nx (wR M a kf (some b)) k n Z) : Wp E K μ d f pc L (.ref (K.1 + b) :: .ref (K.1 + a) :: st) nx M k n Z := by
  obtain ⟨l1, l2, l3⟩ := hf.lt
  refine wp_putAny hd hf hfin ha hn (fun ty e => ?_) (fvs_set _ _ _ _ _ _ _ _ (fun t i hi => ?_) (fun t ht => ?_)) (fun b hb => wR_ne hb) kk
  · have := (cl_ty0 ci l1 kf l2).2.2.1 l3
    rw [← e] at this
    cases ty <;> first | exact ⟨rfl, rfl⟩ | cases this
  · simp [fv, wR, hi]
  · rw [l3] at ht
    cases ht
    simp [fv, wR, va_rf]
abbrev tI : Nat := 0
theorem wp_iald {a N : Nat} {i : Int32} (hd : decode μ.2.1 pc = .ok (.iaload, 1)) (ha : lk a = (9, N)) (hn : a < nx) (hin : vp_in i N) (kk : Wp E K μ d f (pc + 1) L (.int (M.1 a i.toNatClampNeg) :: st) nx M k n Z) : Wp E K μ d f pc L (.int i :: .ref (K.1 + a) :: st) nx M k n Z := by
  intro ok H locs ls hP hS hl
  exact va_iald ok.1 ok.2.1 ok.2.2.2.2.2.2.2.1.1 hP.1 a 0 (cA := K.2.2 9) (n := N) (f := M.1 a) ((wo_get hn).trans (congrArg (fun e => some (K.1 + a, e)) (ce_int ha))) rfl hin hd (kk ok H locs ls hP hS hl)
theorem wp_bald {a N : Nat} {i : Int32} (hd : decode μ.2.1 pc = .ok (.baload, 1)) (ha : lk a = (10, N)) (hn : a < nx) (hin : vp_in i N) (kk : Wp E K μ d f (pc + 1) L (.int (M.1 a i.toNatClampNeg) :: st) nx M k n Z) : Wp E K μ d f pc L (.int i :: .ref (K.1 + a) :: st) nx M k n Z := by
  intro ok H locs ls hP hS hl
  exact va_zald ok.1 ok.2.1 ok.2.2.2.2.2.2.2.1.1 hP.1 a 1 (cA := K.2.2 10) (n := N) (f := M.1 a) ((wo_get hn).trans (congrArg (fun e => some (K.1 + a, e)) (ce_boo ha))) rfl hin hd (kk ok H locs ls hP hS hl)
theorem wp_aaldT {a N : Nat} {i : Int32} (hd : decode μ.2.1 pc = .ok (.aaload, 1)) (ha : lk a = (11, N)) (hn : a < nx) (hin : vp_in i N) (kk : Wp E K μ d f (pc + 1) L (va_rf ((M.2.2 a i.toNatClampNeg).map (fun x => K.1 + x)) :: st) nx M k n Z) : Wp E K μ d f pc L (.int i :: .ref (K.1 + a) :: st) nx M k n Z := by
  intro ok H locs ls hP hS hl
  exact va_aldq ok.1 ok.2.1 ok.2.2.2.2.2.2.2.1.1 hP.1 a 2 (cA := K.2.2 11) (C := "HoundLicence$Town") (n := N) (f := fun j => (M.2.2 a j).map (fun x => K.1 + x)) ((wo_get hn).trans (congrArg (fun e => some (K.1 + a, e)) (ce_ref ha (by decide)))) rfl hin hd (kk ok H locs ls hP hS hl)
theorem wp_aaldA {a N : Nat} {i : Int32} (hd : decode μ.2.1 pc = .ok (.aaload, 1)) (ha : lk a = (12, N)) (hn : a < nx) (hin : vp_in i N) (kk : Wp E K μ d f (pc + 1) L (va_rf ((M.2.2 a i.toNatClampNeg).map (fun x => K.1 + x)) :: st) nx M k n Z) : Wp E K μ d f pc L (.int i :: .ref (K.1 + a) :: st) nx M k n Z := by
  intro ok H locs ls hP hS hl
  have hA := (hP.at hn (ce_ref (K := K) (M := M) ha (by decide)))
  have hlt : i.toNatClampNeg < N := Nat.not_le.mp fun q => hin (Or.inr q)
  have hT := (ok.2.2.2.2.2.2.2.1.1.2 3 _ rfl).1 N (fun j => va_rf ((M.2.2 a j).map (fun x => K.1 + x)))
  exact W.aald (v := va_rf ((M.2.2 a i.toNatClampNeg).map (fun x => K.1 + x))) (ty := .array .int) ok.1 ok.2.1 hA hT rfl (fun q => by cases q) (by show ¬ (i < 0 ∨ (arrV _ _ _).slots.size ≤ _); rw [arrV_size]; exact hin) (by show (arrV _ _ _).slots[_]? = _; rw [arrV_read _ _ hlt]) rfl rfl hd (kk ok H locs ls hP hS hl)
theorem wp_alen {a N : Nat} (hd : decode μ.2.1 pc = .ok (.arraylength, 1)) (ha : lk a = (9, N)) (hn : a < nx) (kk : Wp E K μ d f (pc + 1) L (.int (Int32.ofNat N) :: st) nx M k n Z) : Wp E K μ d f pc L (.ref (K.1 + a) :: st) nx M k n Z := by
  intro ok H locs ls hP hS hl
  exact va_alen ok.1 ok.2.1 ok.2.2.2.2.2.2.2.1.1 hP.1 a 0 (cA := K.2.2 9) (x := (N, .inl (M.1 a))) ((wo_get hn).trans (congrArg (fun e => some (K.1 + a, e)) (ce_int ha))) rfl rfl hd (kk ok H locs ls hP hS hl)
theorem wp_iast {a N : Nat} {i x : Int32} (hd : decode μ.2.1 pc = .ok (.iastore, 1)) (ha : lk a = (9, N)) (hn : a < nx) (hin : vp_in i N) (kk : Wp E K μ d f (pc + 1) L st nx (wI M a i.toNatClampNeg x) k n Z) : Wp E K μ d f pc L (.int x :: .int i :: .ref (K.1 + a) :: st) nx M k n Z := by
  intro ok H locs ls hP hS hl
  have hA := (hP.at hn (ce_int (K := K) (M := M) ha))
  refine W.iast ok.1 ok.2.1 hA ((ok.2.2.2.2.2.2.2.1.1.2 0 _ rfl).1 N (fun j => .int (M.1 a j))) (fun q => by cases q) (by show ¬ (i < 0 ∨ (arrV _ _ _).slots.size ≤ _); rw [arrV_size]; exact hin) rfl rfl hd fun H1 e z oq => ?_
  refine kk ok H1 _ ls (hP.store (e := .inl (K.2.2 9, N, .inl (upd (M.1 a) i.toNatClampNeg x))) ?_ (by rw [ce_int ha, upd_wI]) z oq (fun b hb => wI_ne hb)) (hS.put z oq (Nat.le_add_right _ _)) hl
  show H1[K.1 + a]? = some (vp_cell _ _)
  rw [e, vp_cell_i, vp_cell_i, arrV_store]
  congr 2
  funext q
  by_cases hq : q = i.toNatClampNeg
  · subst hq
    simp [updV, upd]
  · simp [updV, upd, hq]
theorem wp_bast {a N : Nat} {i x : Int32} (hd : decode μ.2.1 pc = .ok (.bastore, 1)) (ha : lk a = (10, N)) (hn : a < nx) (hx : narrow .boolean (.int x) = .int x) (hin : vp_in i N) (kk : Wp E K μ d f (pc + 1) L st nx (wI M a i.toNatClampNeg x) k n Z) : Wp E K μ d f pc L (.int x :: .int i :: .ref (K.1 + a) :: st) nx M k n Z := by
  intro ok H locs ls hP hS hl
  have hA := (hP.at hn (ce_boo (K := K) (M := M) ha))
  refine W.zast ok.1 ok.2.1 hA ((ok.2.2.2.2.2.2.2.1.1.2 1 _ rfl).1 N (fun j => .int (M.1 a j))) (fun q => by cases q) (by show ¬ (i < 0 ∨ (arrV _ _ _).slots.size ≤ _); rw [arrV_size]; exact hin) rfl rfl hd fun H1 e z oq => ?_
  refine kk ok H1 _ ls (hP.store (e := .inl (K.2.2 10, N, .inl (upd (M.1 a) i.toNatClampNeg x))) ?_ (by rw [ce_boo ha, upd_wI]) z oq (fun b hb => wI_ne hb)) (hS.put z oq (Nat.le_add_right _ _)) hl
  show H1[K.1 + a]? = some (vp_cell _ _)
  rw [e, vp_cell_i, vp_cell_i, arrV_store]
  congr 2
  funext q
  by_cases hq : q = i.toNatClampNeg
  · subst hq
    simp [updV, upd]
    exact hx
  · simp [updV, upd, hq]
end HEAP
