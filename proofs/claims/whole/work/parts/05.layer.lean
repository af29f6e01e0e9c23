/-! A memory of numbered cells: what this proof says of the heap. A cell's kind and length stand in a list that never changes (ly); what the cells hold is a triple of functions (numbers, longs, references). -/
abbrev Mm : Type := (Nat → Nat → Int32) × (Nat → Nat → Int64) × (Nat → Nat → Option Nat)
abbrev CtxT : Type := Nat × va_G × (Nat → ClassId)
/-- the types of an object's fields: 0 int, 1 long, else a reference -/
def tcs (kd : Nat) : List Nat := match kd with
  | 0 => [0, 2]
  | 1 => [2, 2, 2, 2]
  | 2 => [0, 0, 0, 0, 2, 2, 2, 2]
  | 3 => [2, 2, 0, 0, 0]
  | 4 => [0, 2, 2, 2, 2, 2]
  | 5 => [2, 0]
  | 6 => [0, 0, 2, 2, 2, 2, 2]
  | 7 => [2, 0, 2, 2, 2, 2, 2, 2, 2, 2, 1]
  | _ => [0, 2, 0, 0, 0, 0, 0, 2, 2, 2, 0, 0, 0, 2, 2, 2, 2, 2, 2, 0, 2, 2, 0, 2, 2, 2, 1, 2, 2, 0, 0]
abbrev lyTown : List (Nat × Nat) := [(6, 0), (9, 4), (9, 4), (9, 5), (9, 5), (9, 5)]
abbrev lyLaw : List (Nat × Nat) := [(2, 0), (9, 4), (9, 4), (9, 4), (9, 4)]
def ly : List (Nat × Nat) := [(7, 0), (9, 60), (3, 0)] ++ lyLaw ++ lyTown ++ lyLaw ++ lyTown ++ lyTown ++ [(0, 0), (11, 14)] ++ (List.replicate 14 lyTown).flatten ++ [(5, 0), (11, 2)] ++ lyTown ++ lyTown
  ++ [(1, 0), (9, 7), (12, 8), (9, 5), (9, 5), (9, 5), (9, 5), (9, 5), (9, 5), (9, 5), (9, 5), (9, 5), (9, 5), (4, 0), (9, 6), (9, 6), (9, 6), (9, 5), (9, 4)]
  ++ [(8, 0), (9, 60), (9, 4), (9, 16), (9, 15), (9, 4), (9, 16), (9, 15), (9, 25), (9, 25), (9, 350), (9, 50), (10, 2), (9, 6), (9, 6), (9, 6), (9, 4), (9, 5)]
def lk (a : Nat) : Nat × Nat := ly.getD a (99, 0)
theorem lk_lt {a : Nat} (h : (lk a).1 ≠ 99) : a < 168 := by
  rcases Nat.lt_or_ge a 168 with q | q
  · exact q
  · refine absurd ?_ h
    unfold lk
    rw [List.getD_eq_getElem?_getD, List.getElem?_eq_none (by rw [show ly.length = 168 from by decide +kernel]; exact q)]
    rfl
def fv (b : Nat) (M : Mm) (a k t : Nat) : Value := if t = 0 then .int (M.1 a k) else if t = 1 then .long (M.2.1 a k) else va_rf ((M.2.2 a k).map (fun x => b + x))
def fvs (b : Nat) (M : Mm) (a : Nat) : Nat → List Nat → List Value
  | _, [] => []
  | k, t :: ts => fv b M a k t :: fvs b M a (k + 1) ts
theorem fvs_get (b : Nat) (M : Mm) (a : Nat) : ∀ (ts : List Nat) (j k : Nat), (fvs b M a j ts)[k]? = (ts[k]?).map (fun t => fv b M a (j + k) t)
  | [], j, k => by simp [fvs]
  | t :: ts, j, 0 => by simp [fvs]
  | t :: ts, j, k + 1 => by
    simp only [fvs, List.getElem?_cons_succ]
    rw [fvs_get b M a ts (j + 1) k]
    congr 2
    funext x
    congr 1
    omega
theorem fvs_len (b : Nat) (M : Mm) (a : Nat) : ∀ (ts : List Nat) (j : Nat), (fvs b M a j ts).length = ts.length
  | [], j => rfl
  | t :: ts, j => by simp only [fvs, List.length_cons]; rw [fvs_len b M a ts (j + 1)]
def ce (K : CtxT) (M : Mm) (a : Nat) : va_E :=
  if (lk a).1 < 9 then .inr ((lk a).1, fvs K.1 M a 0 (tcs (lk a).1))
  else if (lk a).1 < 11 then .inl (K.2.2 (lk a).1, (lk a).2, .inl (M.1 a))
  else .inl (K.2.2 (lk a).1, (lk a).2, .inr (.inr (.inr (.inr (fun j => (M.2.2 a j).map (fun x => K.1 + x))))))
def wo (K : CtxT) (M : Mm) (nx : Nat) : va_W := (List.range nx).map fun a => (K.1 + a, ce K M a)
theorem wo_get {K : CtxT} {M : Mm} {nx a : Nat} (h : a < nx) : (wo K M nx)[a]? = some (K.1 + a, ce K M a) := by
  unfold wo
  rw [List.getElem?_map, List.getElem?_range h]
  rfl
theorem wo_some {K : CtxT} {M : Mm} {nx i : Nat} {q : Nat × va_E} (h : (wo K M nx)[i]? = some q) : i < nx ∧ q = (K.1 + i, ce K M i) := by
  have hl : i < (wo K M nx).length := (List.getElem?_eq_some_iff.mp h).1
  have hn : i < nx := by simpa [wo] using hl
  rw [wo_get hn] at h
  exact ⟨hn, (Option.some.inj h).symm⟩
theorem wo_D (K : CtxT) (M : Mm) (nx : Nat) : va_D (fun q : Nat => K.1 ≤ q) (wo K M nx) := by
  refine ⟨fun i j p q hi hj hpq => ?_, fun k q hk => ?_⟩
  · obtain ⟨-, rfl⟩ := wo_some hi
    obtain ⟨-, rfl⟩ := wo_some hj
    have : K.1 + i = K.1 + j := hpq
    omega
  · obtain ⟨-, rfl⟩ := wo_some hk
    exact Nat.le_add_right _ _
/-- one cell changed -/
theorem wo_set {K : CtxT} {M M' : Mm} {nx a : Nat} {e : va_E} (he : e = ce K M' a) (ho : ∀ b, b ≠ a → ce K M' b = ce K M b) : (wo K M nx).set a (K.1 + a, e) = wo K M' nx := by
  subst he
  apply List.ext_getElem?
  intro i
  rw [List.getElem?_set]
  by_cases hi : a = i
  · subst hi
    rw [if_pos rfl]
    by_cases hl : a < nx
    · rw [wo_get hl, if_pos (by simpa [wo] using hl)]
    · rw [if_neg (by simpa [wo] using hl), List.getElem?_eq_none (by simp [wo]; omega)]
  · rw [if_neg hi]
    by_cases hl : i < nx
    · rw [wo_get hl, wo_get hl, ho i (Ne.symm hi)]
    · rw [List.getElem?_eq_none (by simp [wo]; omega), List.getElem?_eq_none (by simp [wo]; omega)]
theorem wo_push (K : CtxT) (M : Mm) (nx : Nat) : wo K M nx ++ [(K.1 + nx, ce K M nx)] = wo K M (nx + 1) := by
  unfold wo
  rw [List.range_succ, List.map_append]
  rfl
theorem ce_congr {K : CtxT} {M M' : Mm} {b : Nat} (h1 : ∀ k, M'.1 b k = M.1 b k) (h2 : ∀ k, M'.2.1 b k = M.2.1 b k) (h3 : ∀ k, M'.2.2 b k = M.2.2 b k) : ce K M' b = ce K M b := by
  have f1 : M'.1 b = M.1 b := funext h1
  have f3 : M'.2.2 b = M.2.2 b := funext h3
  have g : ∀ (ts : List Nat) (j : Nat), fvs K.1 M' b j ts = fvs K.1 M b j ts := by
    intro ts
    induction ts with
    | nil => intro j; rfl
    | cons t ts ih =>
      intro j
      simp only [fvs, fv, h1, h2, h3]
      rw [ih]
  unfold ce
  rw [g, f1]
  simp only [h3]
/-! what a write does -/
def wI (M : Mm) (a k : Nat) (x : Int32) : Mm := (fun b j => if b = a ∧ j = k then x else M.1 b j, M.2)
def wJ (M : Mm) (a k : Nat) (x : Int64) : Mm := (M.1, fun b j => if b = a ∧ j = k then x else M.2.1 b j, M.2.2)
def wR (M : Mm) (a k : Nat) (x : Option Nat) : Mm := (M.1, M.2.1, fun b j => if b = a ∧ j = k then x else M.2.2 b j)
/-- n numbers from the place sp of a0 on to the place dp of a on -/
def wC (M : Mm) (a0 sp a dp n : Nat) : Mm := (fun b j => if b = a ∧ dp ≤ j ∧ j < dp + n then M.1 a0 (sp + (j - dp)) else M.1 b j, M.2)
abbrev rI (M : Mm) (a k : Nat) : Int32 := M.1 a k
abbrev rJ (M : Mm) (a k : Nat) : Int64 := M.2.1 a k
abbrev rR (M : Mm) (a k : Nat) : Option Nat := M.2.2 a k
theorem fvs_set (b : Nat) (M M' : Mm) (a : Nat) (v : Value) : ∀ (ts : List Nat) (j k : Nat), (∀ t i, i ≠ k → fv b M' a (j + i) t = fv b M a (j + i) t) → (∀ t, ts[k]? = some t → fv b M' a (j + k) t = v) → (fvs b M a j ts).set k v = fvs b M' a j ts
  | [], j, k, _, _ => by simp [fvs]
  | t :: ts, j, 0, h, hk => by
    simp only [fvs, List.set_cons_zero]
    have e0 := hk t rfl
    rw [Nat.add_zero] at e0
    rw [e0]
    congr 1
    apply List.ext_getElem?
    intro i
    rw [fvs_get, fvs_get]
    congr 1
    funext x
    have := h x (i + 1) (by omega)
    rw [show j + (i + 1) = j + 1 + i by omega] at this
    exact this.symm
  | t :: ts, j, k + 1, h, hk => by
    simp only [fvs, List.set_cons_succ]
    have e0 := h t 0 (by omega)
    rw [Nat.add_zero] at e0
    rw [e0, fvs_set b M M' a v ts (j + 1) k (fun t i hi => by
      have := h t (i + 1) (by omega)
      rw [show j + (i + 1) = j + 1 + i by omega] at this
      exact this) (fun t ht => by
      have := hk t (by rw [List.getElem?_cons_succ]; exact ht)
      rw [show j + (k + 1) = j + 1 + k by omega] at this
      exact this)]
/-! the words that every method's contract asks, and those that travel apart -/
def gw : List Cond := lw_tbl.filter goodWord
def isEx : Cond → Bool
  | .methodLinkNest .. => true
  | _ => false
def exW : List Cond := lw_tbl.filter isEx
theorem exW_ok : ∀ w ∈ exW, isEx w = true := fun _ h => (List.mem_filter.mp h).2
abbrev aoT : List FieldType := [.object "HoundLicence$Town", .array .int]
theorem gw_of {w : Cond} (h : w ∈ lw_tbl) (hg : goodWord w = true) : w ∈ gw := List.mem_filter.mpr ⟨h, hg⟩
theorem ex_of {w : Cond} (h : w ∈ lw_tbl) (hg : isEx w = true) : w ∈ exW := List.mem_filter.mpr ⟨h, hg⟩
theorem gw_good : ∀ w ∈ gw, goodWord w = true := fun w h => (List.mem_filter.mp h).2
theorem gw_in {big : List Cond} {c c' : Cond} (hc : c' ∈ gw) : GoodIn (c :: gw) (c' :: gw) := by
  intro w hw
  have h1 : w ∈ gw := by
    rcases List.mem_cons.mp hw with rfl | h
    · exact hc
    · exact h
  exact ⟨List.mem_cons_of_mem _ h1, good_of_word (gw_good w h1)⟩
theorem gw_inb {big : List Cond} {c' : Cond} (hb : ∀ w ∈ gw, w ∈ big) (hc : c' ∈ gw) : GoodIn big (c' :: gw) := by
  intro w hw
  have h1 : w ∈ gw := by
    rcases List.mem_cons.mp hw with rfl | h
    · exact hc
    · exact h
  exact ⟨hb w h1, good_of_word (gw_good w h1)⟩
abbrev tysG (K : CtxT) : List (ClassId × FieldType) := [(K.2.2 9, .int), (K.2.2 10, .boolean), (K.2.2 11, .object "HoundLicence$Town"), (K.2.2 12, .array .int)]
def Kx (K : CtxT) (U : State) : Prop := va_K K.2.1 vwCl (tysG K) U ∧ (∀ w ∈ exW, va_Nw w U) ∧ ∀ ty ∈ aoT, (Cond.arrayOver ty).before #[] U = true
theorem ex_warm {w : Cond} (hw : isEx w = true) {s U : State} (hW : s.WarmedH U.vm) (h : va_Nw w s) : va_Nw w U := by
  cases w with
  | methodLinkNest a i x hh => exact va_Nw.warmM hW h
  | _ => cases hw
theorem ex_tab {w : Cond} (hw : isEx w = true) : w.onTables = true := by
  cases w <;> first | rfl | cases hw
theorem ao_vm {ty : FieldType} {A A' : Array Value} {u U : State} (hv : u.vm = U.vm) (h : (Cond.arrayOver ty).before A u = true) : (Cond.arrayOver ty).before A' U = true := by
  have e : (Cond.arrayOver ty).before A' (u.setVm U.vm) = (Cond.arrayOver ty).before A' U := by cases ty <;> rfl
  rw [← e]
  have e2 : u.setVm U.vm = u := by rw [← hv]; rfl
  rw [e2]
  have e3 : (Cond.arrayOver ty).before A' u = (Cond.arrayOver ty).before A u := by cases ty <;> rfl
  rw [e3]
  exact h
theorem ao_warm {ty : FieldType} {A A' : Array Value} {s U : State} (hW : s.WarmedH U.vm) (h : (Cond.arrayOver ty).before A s = true) : (Cond.arrayOver ty).before A' U = true := by
  have h1 : (Cond.arrayOver ty).before A (s.setVm U.vm) = true := by rw [Cond.arrayOver_setVmC hW.alike]; exact h
  exact ao_vm (u := s.setVm U.vm) rfl h1
theorem Kx.warm {K : CtxT} {s U : State} (h : Kx K s) (hW : s.WarmedH U.vm) : Kx K U := ⟨va_K.moved hW.alike h.1, fun w hw => ex_warm (exW_ok w hw) hW (h.2.1 w hw), fun ty ht => ao_warm hW (h.2.2 ty ht)⟩
theorem Kx.same {K : CtxT} {u U : State} (h : Kx K u) (hv : u.vm = U.vm) : Kx K U := ⟨va_K.moved (by rw [hv]; exact Vm.Alike.refl _) h.1, fun w hw => va_Nw.same (ex_tab (exW_ok w hw)) hv (h.2.1 w hw), fun ty ht => ao_vm hv (h.2.2 ty ht)⟩
/-! the locals as a row of places -/
def lR (ls : Array Slot) (nl : Nat) (L : List (Option Value)) : Prop := L.length = nl ∧ ∃ l, lv_has ls nl l ∧ ∀ (i : Nat) (v : Value), L[i]? = some (some v) → (i, v) ∈ l
theorem lR.at {ls : Array Slot} {nl : Nat} {L : List (Option Value)} (h : lR ls nl L) {i : Nat} {v : Value} (hi : L[i]? = some (some v)) : ls[i]? = some (.val v) := by
  obtain ⟨-, l, h1, h2⟩ := h
  exact h1.2.2 _ (h2 i v hi)
theorem lR.size {ls : Array Slot} {nl : Nat} {L : List (Option Value)} (h : lR ls nl L) : ls.size = nl := by
  obtain ⟨-, l, h1, -⟩ := h
  exact h1.1
/-- the place below holds no long -/
def nolong (L : List (Option Value)) (i : Nat) : Bool := match i with
  | 0 => true
  | j + 1 => match L[j]? with
    | some (some v) => v.category == 1
    | _ => true
theorem nolong_ne {L : List (Option Value)} {i j : Nat} {v : Value} (h : nolong L i = true) (hj : j + 1 = i) (hv : L[j]? = some (some v)) : ¬ v.category = 2 := by
  subst hj
  simp only [nolong, hv] at h
  have := eq_of_beq h
  omega
theorem lR.keep1 {ls' : Array Slot} {nl i : Nat} {v : Value} {L : List (Option Value)} {l : List (Nat × Value)} (hlen : L.length = nl) (hin : ∀ (i : Nat) (v : Value), L[i]? = some (some v) → (i, v) ∈ l) (hk : nolong L i = true)
    (h' : lv_has ls' nl ((i, v) :: l.filter (fun q => !(q.1 == i) && !(q.1 + 1 == i && q.2.category == 2)))) : lR ls' nl (L.set i (some v)) := by
  refine ⟨by rw [List.length_set]; exact hlen, _, h', fun j w hw => ?_⟩
  by_cases hj : j = i
  · subst hj
    have hl : j < L.length := by
      have := (List.getElem?_eq_some_iff.mp hw).1
      rwa [List.length_set] at this
    rw [List.getElem?_set_self hl] at hw
    cases hw
    exact List.mem_cons_self
  · rw [List.getElem?_set_ne (Ne.symm hj)] at hw
    refine List.mem_cons_of_mem _ (List.mem_filter.mpr ⟨hin j w hw, ?_⟩)
    have hc : ¬ (j + 1 = i ∧ w.category = 2) := fun q => nolong_ne hk q.1 hw q.2
    simp only [Bool.and_eq_true, Bool.not_eq_true', Bool.and_eq_false_imp, beq_iff_eq, beq_eq_false_iff_ne]
    refine ⟨hj, fun q1 q2 => hc ⟨q1, q2⟩⟩
theorem lR.keep2 {ls' : Array Slot} {nl i : Nat} {v : Value} {L : List (Option Value)} {l : List (Nat × Value)} (hlen : L.length = nl) (hin : ∀ (i : Nat) (v : Value), L[i]? = some (some v) → (i, v) ∈ l) (hk : nolong L i = true)
    (h' : lv_has ls' nl ((i, v) :: l.filter (fun q => !(q.1 == i) && (!(q.1 == i + 1) && !(q.1 + 1 == i && q.2.category == 2))))) : lR ls' nl ((L.set i (some v)).set (i + 1) none) := by
  refine ⟨by rw [List.length_set, List.length_set]; exact hlen, _, h', fun j w hw => ?_⟩
  by_cases hj1 : j = i + 1
  · subst hj1
    rw [List.getElem?_set] at hw
    simp at hw
  · rw [List.getElem?_set_ne (Ne.symm hj1)] at hw
    by_cases hj : j = i
    · subst hj
      have hl : j < L.length := by
        have := (List.getElem?_eq_some_iff.mp hw).1
        rwa [List.length_set] at this
      rw [List.getElem?_set_self hl] at hw
      cases hw
      exact List.mem_cons_self
    · rw [List.getElem?_set_ne (Ne.symm hj)] at hw
      refine List.mem_cons_of_mem _ (List.mem_filter.mpr ⟨hin j w hw, ?_⟩)
      have hc : ¬ (j + 1 = i ∧ w.category = 2) := fun q => nolong_ne hk q.1 hw q.2
      simp only [Bool.and_eq_true, Bool.not_eq_true', Bool.and_eq_false_imp, beq_iff_eq, beq_eq_false_iff_ne]
      exact ⟨hj, hj1, fun q1 q2 => hc ⟨q1, q2⟩⟩
def enl : List Value → List (Option Value)
  | [] => []
  | v :: vs => if v.category = 2 then some v :: none :: enl vs else some v :: enl vs
theorem enl_in : ∀ (vs : List Value) (k i : Nat) (v : Value), (enl vs)[i]? = some (some v) → (k + i, v) ∈ lv_args k vs
  | [], k, i, v, h => by simp [enl] at h
  | w :: vs, k, i, v, h => by
    unfold enl at h
    by_cases hc : w.category = 2
    · rw [if_pos hc] at h
      simp only [lv_args, hc, if_true]
      match i, h with
      | 0, h => cases h; exact List.mem_cons_self
      | 1, h => cases h
      | i + 2, h =>
        have := enl_in vs (k + 2) i v h
        rw [show k + 2 + i = k + (i + 2) by omega] at this
        exact List.mem_cons_of_mem _ this
    · rw [if_neg hc] at h
      simp only [lv_args, hc, if_false]
      match i, h with
      | 0, h => cases h; exact List.mem_cons_self
      | i + 1, h =>
        have := enl_in vs (k + 1) i v h
        rw [show k + 1 + i = k + (i + 1) by omega] at this
        exact List.mem_cons_of_mem _ this
/-! the run of a method from a place of its code on -/
abbrev EnvT : Type := Program × Launch × Env × Room × State × MethodId × Array Value × List Frame × Method × Code
abbrev ep (E : EnvT) : Program := E.1
abbrev el (E : EnvT) : Launch := E.2.1
abbrev ee (E : EnvT) : Env := E.2.2.1
abbrev eR (E : EnvT) : Room := E.2.2.2.1
abbrev es (E : EnvT) : State := E.2.2.2.2.1
abbrev em (E : EnvT) : MethodId := E.2.2.2.2.2.1
abbrev ea (E : EnvT) : Array Value := E.2.2.2.2.2.2.1
abbrev eb (E : EnvT) : List Frame := E.2.2.2.2.2.2.2.1
abbrev eM (E : EnvT) : Method := E.2.2.2.2.2.2.2.2.1
abbrev ec (E : EnvT) : Code := E.2.2.2.2.2.2.2.2.2
abbrev MI : Type := MethodName × ByteArray × Nat × Option FieldType
def Ok (E : EnvT) (K : CtxT) (μ : MI) (d : Nat) (f : Nat × Nat) : Prop :=
  (ep E).tables.exec = Jvm.exec ∧ (ec E).code = μ.2.1 ∧ (ec E).maxLocals = μ.2.2.1 ∧ (es E).vm.findClass μ.1.cls = some (em E).cls ∧ (∀ w ∈ gw, w.before (ea E) (es E) = true) ∧ (eM E).sig.returnType = μ.2.2.2 ∧ (eM E).locks = false ∧ Kx K (es E) ∧ (eM E).name = μ.1.name ∧
  d ≤ (eR E).frames ∧ 60 * d ≤ (eR E).locals ∧ f.1 ≤ (eR E).cells ∧ f.2 ≤ (eR E).slots ∧ K.1 ≤ (es E).heap.size
def Pw (K : CtxT) (nx : Nat) (M : Mm) (H : Heap) : Prop := va_P K.2.1 vwCl (wo K M nx) H ∧ H.size = K.1 + nx
def Wp (E : EnvT) (K : CtxT) (μ : MI) (d : Nat) (f : Nat × Nat) (pc : Nat) (L : List (Option Value)) (st : List Value) (nx : Nat) (M : Mm) (k n : Nat) (Z : State → Prop) : Prop :=
  Ok E K μ d f → ∀ (H : Heap) (locs : List Loc) (ls : Array Slot), Pw K nx M H → va_S (fun q : Nat => K.1 ≤ q) (es E).heap H locs → lR ls μ.2.2.1 L →
    W (ep E) (el E) (ee E) (eR E) (es E) (em E) (ea E) (eb E) (eM E) (ec E) H locs k n Z (F0 (em E) pc ls st)
/-- a contract: from the memory M (nx cells) the method returns, and answer and memory satisfy Q; dn cells of ds places are new -/
def Qc (K : CtxT) (nx : Nat) (Q : Option Value → Mm → Prop) : Array Value → State → Outcome → State → Prop := fun _ st o t =>
  (∃ (v : Option Value) (M' : Mm), o = .returned v ∧ Q v M' ∧ Pw K nx M' t.heap ∧ Kx K t) ∧ va_F (fun q : Nat => K.1 ≤ q) st t
def rmD (d dn ds : Nat) : Room := { frames := d, cells := dn, slots := ds, locals := 60 * d }
def Ct (l : Launch) (K : CtxT) (d : Nat) (μ : MI) (vs : List Value) (nx : Nat) (M : Mm) (dn ds : Nat) (Q : Option Value → Mm → Prop) : Prop :=
  Met l μ.1 (.code μ.1 μ.2.1 μ.2.2.1 μ.2.2.2 :: gw) (rmD d dn ds) (va_Pc vs (fun U => Pw K nx M U.heap ∧ Kx K U ∧ K.1 ≤ U.heap.size)) (Qc K (nx + dn) Q) dn ds (fun q : Nat => K.1 ≤ q)
abbrev zM (E : EnvT) (K : CtxT) (nx dn ds : Nat) (Q : Option Value → Mm → Prop) : State → Prop := MQ (eb E) (Qc K nx Q) (ea E) (es E) dn ds (fun q : Nat => K.1 ≤ q)
theorem ct_of {l : Launch} {K : CtxT} {d : Nat} {μ : MI} {vs : List Value} {nx : Nat} {M : Mm} {dn ds : Nat} {Q : Option Value → Mm → Prop} {L : List (Option Value)} (hp : plainName μ.1.cls = true) (hlen : (lg_sl vs).length ≤ μ.2.2.1) (hL : enl vs ++ List.replicate (μ.2.2.1 - (enl vs).length) none = L) (hL2 : L.length = μ.2.2.1)
    (body : ∀ E : EnvT, el E = l → Wp E K μ d (dn, ds) 0 L [] nx M 0 0 (zM E K (nx + dn) dn ds Q)) : Ct l K d μ vs nx M dn ds Q := by
  refine Met.ofW (cc := μ.2.1) (maxL := μ.2.2.1) (ret := μ.2.2.2) hp rfl ?_
  intro p e s m args below meth c s₁ B hml hv
  obtain ⟨rfl, hP, hK, hsz⟩ := hv
  have hts := atoms_spec (ws := Jvm.Cond.code μ.1 μ.2.1 μ.2.2.1 μ.2.2.2 :: gw) B.pre
  have hown : s.vm.findClass μ.1.cls = some m.cls := findClass_of_methodNamed B.named
  have h := body (p, l, e, rmD d dn ds, s, m, vs.toArray, below, meth, c) rfl ⟨B.exec, B.bytes, hml, hown, fun w hw => hts w (List.mem_cons_of_mem _ hw), B.returns, B.notSynchronized, hK, (name_of_methodNamed B.named B.method).1, Nat.le_refl _, Nat.le_refl _, Nat.le_refl _, Nat.le_refl _, hsz⟩ s.heap []
  have hl := lv_entry vs (n := μ.2.2.1) hlen
  rw [lg_entry_eq]
  refine h _ hP va_S.rf ⟨hL2, _, hl, fun i v hi => ?_⟩
  subst hL
  rcases Nat.lt_or_ge i (enl vs).length with q | q
  · rw [List.getElem?_append_left q] at hi
    have := enl_in vs 0 i v hi
    rwa [Nat.zero_add] at this
  · rw [List.getElem?_append_right q, List.getElem?_replicate] at hi
    split at hi <;> cases hi
