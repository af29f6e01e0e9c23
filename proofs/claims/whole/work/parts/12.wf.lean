/-! the system made: 168 cells, none new -/
theorem lk_n {a kd N : Nat} (h : lk a = (kd, N)) : N < 2 ^ 31 := by
  have h0 : ∀ p ∈ ly, p.2 ≤ 350 := by decide +kernel
  have h1 : (lk a).2 ≤ 350 := by
    unfold lk
    rw [List.getD_eq_getElem?_getD]
    cases hq : ly[a]? with
    | none => decide
    | some p => exact h0 p (List.mem_of_getElem? hq)
  rw [h] at h1
  exact Nat.lt_of_le_of_lt h1 (by decide)
theorem lk_lt' {a kd N : Nat} (h : lk a = (kd, N)) (hk : kd ≠ 99) : a < 168 := lk_lt (by rw [h]; exact hk)
/-- the references that never change, by cell and place -/
def rtab (a k : Nat) : Option Nat := match (lk a).1 with
  | 0 => if k = 1 then some (a + 1) else none
  | 1 => if k = 0 then some (a + 1) else if k = 1 then some (a + 2) else none
  | 2 => if 4 ≤ k ∧ k ≤ 7 then some (a + (k - 3)) else none
  | 3 => if k = 0 then some (a + 1) else if k = 1 then some (a + 6) else none
  | 4 => if 1 ≤ k ∧ k ≤ 5 then some (a + k) else none
  | 5 => if k = 0 then some (a + 1) else none
  | 6 => if 2 ≤ k ∧ k ≤ 6 then some (a + (k - 1)) else none
  | 7 => [some 1, none, some 2, some 14, some 19, some 25, some 31, some 117, some 131, some 144][k]?.join
  | 8 => [none, some 151, none, none, none, none, none, some 152, some 153, some 154, none, none, none, some 155, some 156, some 157, some 158, some 159, some 160, none, some 161, some 162, none, some 163, some 164, some 165, none, some 166, some 167][k]?.join
  | 11 => if a = 118 then (if k < 2 then some (119 + 6 * k) else none) else none
  | 12 => if k < 8 then some (a + 1 + k) else none
  | _ => none
def RS (M : Mm) : Prop := ∀ a k b, rtab a k = some b → M.2.2 a k = some b
theorem RS.of {M M' : Mm} (h : RS M) (e : M'.2.2 = M.2.2) : RS M' := fun a k b q => by rw [e]; exact h a k b q
/-- a town at the cell t, a law at the cell w -/
def IT (t : Nat) : Prop := lk t = (6, 0) ∧ lk (t + 1) = (9, 4) ∧ lk (t + 2) = (9, 4) ∧ lk (t + 3) = (9, 5) ∧ lk (t + 4) = (9, 5) ∧ lk (t + 5) = (9, 5)
def IL (w : Nat) : Prop := lk w = (2, 0) ∧ lk (w + 1) = (9, 4) ∧ lk (w + 2) = (9, 4) ∧ lk (w + 3) = (9, 4) ∧ lk (w + 4) = (9, 4)
def b2i (b : Bool) : Int32 := if b then 1 else 0
theorem b2i_0 {b : Bool} (h : b2i b = 0) : b = false := by cases b <;> first | rfl | (exact absurd h (by decide))
theorem b2i_1 {b : Bool} (h : ¬ b2i b = 0) : b = true := by cases b <;> first | rfl | (exact absurd rfl h)
theorem b2i_nar (b : Bool) : narrow .boolean (.int (b2i b)) = .int (b2i b) := by cases b <;> rfl
theorem rt_T2 {t : Nat} (h : IT t) : rtab t 2 = some (t + 1) := by simp [rtab, h.1]
theorem rt_T3 {t : Nat} (h : IT t) : rtab t 3 = some (t + 2) := by simp [rtab, h.1]
theorem rt_T4 {t : Nat} (h : IT t) : rtab t 4 = some (t + 3) := by simp [rtab, h.1]
theorem rt_T5 {t : Nat} (h : IT t) : rtab t 5 = some (t + 4) := by simp [rtab, h.1]
theorem rt_T6 {t : Nat} (h : IT t) : rtab t 6 = some (t + 5) := by simp [rtab, h.1]
theorem rt_L4 {w : Nat} (h : IL w) : rtab w 4 = some (w + 1) := by simp [rtab, h.1]
theorem rt_L5 {w : Nat} (h : IL w) : rtab w 5 = some (w + 2) := by simp [rtab, h.1]
theorem rt_L6 {w : Nat} (h : IL w) : rtab w 6 = some (w + 3) := by simp [rtab, h.1]
theorem rt_L7 {w : Nat} (h : IL w) : rtab w 7 = some (w + 4) := by simp [rtab, h.1]
theorem lk_0 : lk 0 = (7, 0) := rfl
theorem lk_1 : lk 1 = (9, 60) := rfl
theorem lk_2 : lk 2 = (3, 0) := rfl
theorem lk_3 : lk 3 = (2, 0) := rfl
theorem lk_4 : lk 4 = (9, 4) := rfl
theorem lk_5 : lk 5 = (9, 4) := rfl
theorem lk_6 : lk 6 = (9, 4) := rfl
theorem lk_7 : lk 7 = (9, 4) := rfl
theorem lk_8 : lk 8 = (6, 0) := rfl
theorem lk_9 : lk 9 = (9, 4) := rfl
theorem lk_10 : lk 10 = (9, 4) := rfl
theorem lk_11 : lk 11 = (9, 5) := rfl
theorem lk_12 : lk 12 = (9, 5) := rfl
theorem lk_13 : lk 13 = (9, 5) := rfl
theorem lk_14 : lk 14 = (2, 0) := rfl
theorem lk_15 : lk 15 = (9, 4) := rfl
theorem lk_16 : lk 16 = (9, 4) := rfl
theorem lk_17 : lk 17 = (9, 4) := rfl
theorem lk_18 : lk 18 = (9, 4) := rfl
theorem lk_19 : lk 19 = (6, 0) := rfl
theorem lk_20 : lk 20 = (9, 4) := rfl
theorem lk_21 : lk 21 = (9, 4) := rfl
theorem lk_22 : lk 22 = (9, 5) := rfl
theorem lk_23 : lk 23 = (9, 5) := rfl
theorem lk_24 : lk 24 = (9, 5) := rfl
theorem lk_25 : lk 25 = (6, 0) := rfl
theorem lk_26 : lk 26 = (9, 4) := rfl
theorem lk_27 : lk 27 = (9, 4) := rfl
theorem lk_28 : lk 28 = (9, 5) := rfl
theorem lk_29 : lk 29 = (9, 5) := rfl
theorem lk_30 : lk 30 = (9, 5) := rfl
theorem lk_31 : lk 31 = (0, 0) := rfl
theorem lk_32 : lk 32 = (11, 14) := rfl
theorem lk_117 : lk 117 = (5, 0) := rfl
theorem lk_118 : lk 118 = (11, 2) := rfl
theorem lk_131 : lk 131 = (1, 0) := rfl
theorem lk_132 : lk 132 = (9, 7) := rfl
theorem lk_133 : lk 133 = (12, 8) := rfl
theorem lk_134 : lk 134 = (9, 5) := rfl
theorem lk_135 : lk 135 = (9, 5) := rfl
theorem lk_136 : lk 136 = (9, 5) := rfl
theorem lk_137 : lk 137 = (9, 5) := rfl
theorem lk_138 : lk 138 = (9, 5) := rfl
theorem lk_139 : lk 139 = (9, 5) := rfl
theorem lk_140 : lk 140 = (9, 5) := rfl
theorem lk_141 : lk 141 = (9, 5) := rfl
theorem lk_142 : lk 142 = (9, 5) := rfl
theorem lk_143 : lk 143 = (9, 5) := rfl
theorem lk_144 : lk 144 = (4, 0) := rfl
theorem lk_145 : lk 145 = (9, 6) := rfl
theorem lk_146 : lk 146 = (9, 6) := rfl
theorem lk_147 : lk 147 = (9, 6) := rfl
theorem lk_148 : lk 148 = (9, 5) := rfl
theorem lk_149 : lk 149 = (9, 4) := rfl
theorem lk_150 : lk 150 = (8, 0) := rfl
theorem lk_151 : lk 151 = (9, 60) := rfl
theorem lk_152 : lk 152 = (9, 4) := rfl
theorem lk_153 : lk 153 = (9, 16) := rfl
theorem lk_154 : lk 154 = (9, 15) := rfl
theorem lk_155 : lk 155 = (9, 4) := rfl
theorem lk_156 : lk 156 = (9, 16) := rfl
theorem lk_157 : lk 157 = (9, 15) := rfl
theorem lk_158 : lk 158 = (9, 25) := rfl
theorem lk_159 : lk 159 = (9, 25) := rfl
theorem lk_160 : lk 160 = (9, 350) := rfl
theorem lk_161 : lk 161 = (9, 50) := rfl
theorem lk_162 : lk 162 = (10, 2) := rfl
theorem lk_163 : lk 163 = (9, 6) := rfl
theorem lk_164 : lk 164 = (9, 6) := rfl
theorem lk_165 : lk 165 = (9, 6) := rfl
theorem lk_166 : lk 166 = (9, 4) := rfl
theorem lk_167 : lk 167 = (9, 5) := rfl
theorem IT_8 : IT 8 := ⟨rfl, rfl, rfl, rfl, rfl, rfl⟩
theorem IT_19 : IT 19 := ⟨rfl, rfl, rfl, rfl, rfl, rfl⟩
theorem IT_25 : IT 25 := ⟨rfl, rfl, rfl, rfl, rfl, rfl⟩
theorem IL_3 : IL 3 := ⟨rfl, rfl, rfl, rfl, rfl⟩
theorem IL_14 : IL 14 := ⟨rfl, rfl, rfl, rfl, rfl⟩
theorem IT_acts : ∀ i, i < 14 → IT (33 + 6 * i) := by
  have h : ∀ i, i < 14 → lk (33 + 6 * i) = (6, 0) ∧ lk (33 + 6 * i + 1) = (9, 4) ∧ lk (33 + 6 * i + 2) = (9, 4) ∧ lk (33 + 6 * i + 3) = (9, 5) ∧ lk (33 + 6 * i + 4) = (9, 5) ∧ lk (33 + 6 * i + 5) = (9, 5) := by decide +kernel
  exact h
theorem IT_slots : ∀ i, i < 2 → IT (119 + 6 * i) := by
  have h : ∀ i, i < 2 → lk (119 + 6 * i) = (6, 0) ∧ lk (119 + 6 * i + 1) = (9, 4) ∧ lk (119 + 6 * i + 2) = (9, 4) ∧ lk (119 + 6 * i + 3) = (9, 5) ∧ lk (119 + 6 * i + 4) = (9, 5) ∧ lk (119 + 6 * i + 5) = (9, 5) := by decide +kernel
  exact h
section WF
variable {E : EnvT} {K : CtxT} {μ : MI} {d : Nat} {f : Nat × Nat} {pc : Nat} {L : List (Option Value)} {st : List Value} {M : Mm} {k n : Nat} {Z : State → Prop}
theorem wf_getI {a idx ci kf : Nat} {fin : Bool} (hd : decode μ.2.1 pc = .ok (.getfield idx, 3)) (hf : FL μ.1.cls idx ci kf 0 fin) (ha : lk a = (ci, 0)) (kk : Wp E K μ d f (pc + 3) L (.int (M.1 a kf) :: st) 168 M k n Z) : Wp E K μ d f pc L (.ref (K.1 + a) :: st) 168 M k n Z := wp_getf hd hf ha (lk_lt' ha (by have := hf.lt.1; omega)) kk
theorem wf_getJ {a idx ci kf : Nat} {fin : Bool} (hd : decode μ.2.1 pc = .ok (.getfield idx, 3)) (hf : FL μ.1.cls idx ci kf 1 fin) (ha : lk a = (ci, 0)) (kk : Wp E K μ d f (pc + 3) L (.long (M.2.1 a kf) :: st) 168 M k n Z) : Wp E K μ d f pc L (.ref (K.1 + a) :: st) 168 M k n Z := wp_getf hd hf ha (lk_lt' ha (by have := hf.lt.1; omega)) kk
theorem wf_getR {a idx ci kf b : Nat} {fin : Bool} (hd : decode μ.2.1 pc = .ok (.getfield idx, 3)) (hf : FL μ.1.cls idx ci kf 2 fin) (ha : lk a = (ci, 0)) (hr : M.2.2 a kf = some b) (kk : Wp E K μ d f (pc + 3) L (.ref (K.1 + b) :: st) 168 M k n Z) : Wp E K μ d f pc L (.ref (K.1 + a) :: st) 168 M k n Z := wp_getf hd hf ha (lk_lt' ha (by have := hf.lt.1; omega)) (by rw [show fv K.1 M a kf 2 = .ref (K.1 + b) by simp [fv, hr, va_rf]]; exact kk)
theorem wf_putI {a idx ci kf : Nat} {x : Int32} (hd : decode μ.2.1 pc = .ok (.putfield idx, 3)) (hf : FL μ.1.cls idx ci kf 0 false) (ha : lk a = (ci, 0)) (kk : Wp E K μ d f (pc + 3) L st 168 (wI M a kf x) k n Z) : Wp E K μ d f pc L (.int x :: .ref (K.1 + a) :: st) 168 M k n Z := wp_putI hd hf (fun h => by cases h) ha (lk_lt' ha (by have := hf.lt.1; omega)) kk
theorem wf_putJ {a idx ci kf : Nat} {x : Int64} (hd : decode μ.2.1 pc = .ok (.putfield idx, 3)) (hf : FL μ.1.cls idx ci kf 1 false) (ha : lk a = (ci, 0)) (kk : Wp E K μ d f (pc + 3) L st 168 (wJ M a kf x) k n Z) : Wp E K μ d f pc L (.long x :: .ref (K.1 + a) :: st) 168 M k n Z := wp_putJ hd hf (fun h => by cases h) ha (lk_lt' ha (by have := hf.lt.1; omega)) kk
theorem wf_putR {a idx ci kf b : Nat} (hd : decode μ.2.1 pc = .ok (.putfield idx, 3)) (hf : FL μ.1.cls idx ci kf 2 false) (ha : lk a = (ci, 0)) (kk : Wp E K μ d f (pc + 3) L st 168 (wR M a kf (some b)) k n Z) : Wp E K μ d f pc L (.ref (K.1 + b) :: .ref (K.1 + a) :: st) 168 M k n Z := wp_putR hd hf (fun h => by cases h) ha (lk_lt' ha (by have := hf.lt.1; omega)) kk
theorem wf_iald {a N j : Nat} {i : Int32} (hd : decode μ.2.1 pc = .ok (.iaload, 1)) (ha : lk a = (9, N)) (hi : i = nI j) (hj : j < N) (kk : Wp E K μ d f (pc + 1) L (.int (M.1 a j) :: st) 168 M k n Z) : Wp E K μ d f pc L (.int i :: .ref (K.1 + a) :: st) 168 M k n Z := wp_iald hd ha (lk_lt' ha (by decide)) (by rw [hi]; exact vp_in_nI hj (lk_n ha)) (by rw [hi, nI_clamp (Nat.lt_trans hj (lk_n ha))]; exact kk)
theorem wf_bald {a N j : Nat} {i : Int32} (hd : decode μ.2.1 pc = .ok (.baload, 1)) (ha : lk a = (10, N)) (hi : i = nI j) (hj : j < N) (kk : Wp E K μ d f (pc + 1) L (.int (M.1 a j) :: st) 168 M k n Z) : Wp E K μ d f pc L (.int i :: .ref (K.1 + a) :: st) 168 M k n Z := wp_bald hd ha (lk_lt' ha (by decide)) (by rw [hi]; exact vp_in_nI hj (lk_n ha)) (by rw [hi, nI_clamp (Nat.lt_trans hj (lk_n ha))]; exact kk)
theorem wf_aaldT {a N j b : Nat} {i : Int32} (hd : decode μ.2.1 pc = .ok (.aaload, 1)) (ha : lk a = (11, N)) (hi : i = nI j) (hj : j < N) (hr : M.2.2 a j = some b) (kk : Wp E K μ d f (pc + 1) L (.ref (K.1 + b) :: st) 168 M k n Z) : Wp E K μ d f pc L (.int i :: .ref (K.1 + a) :: st) 168 M k n Z := wp_aaldT hd ha (lk_lt' ha (by decide)) (by rw [hi]; exact vp_in_nI hj (lk_n ha)) (by rw [hi, nI_clamp (Nat.lt_trans hj (lk_n ha)), hr]; exact kk)
theorem wf_aaldA {a N j b : Nat} {i : Int32} (hd : decode μ.2.1 pc = .ok (.aaload, 1)) (ha : lk a = (12, N)) (hi : i = nI j) (hj : j < N) (hr : M.2.2 a j = some b) (kk : Wp E K μ d f (pc + 1) L (.ref (K.1 + b) :: st) 168 M k n Z) : Wp E K μ d f pc L (.int i :: .ref (K.1 + a) :: st) 168 M k n Z := wp_aaldA hd ha (lk_lt' ha (by decide)) (by rw [hi]; exact vp_in_nI hj (lk_n ha)) (by rw [hi, nI_clamp (Nat.lt_trans hj (lk_n ha)), hr]; exact kk)
theorem wf_iast {a N j : Nat} {i x : Int32} (hd : decode μ.2.1 pc = .ok (.iastore, 1)) (ha : lk a = (9, N)) (hi : i = nI j) (hj : j < N) (kk : Wp E K μ d f (pc + 1) L st 168 (wI M a j x) k n Z) : Wp E K μ d f pc L (.int x :: .int i :: .ref (K.1 + a) :: st) 168 M k n Z := wp_iast hd ha (lk_lt' ha (by decide)) (by rw [hi]; exact vp_in_nI hj (lk_n ha)) (by rw [hi, nI_clamp (Nat.lt_trans hj (lk_n ha))]; exact kk)
theorem wf_bast {a N j : Nat} {i x : Int32} (hd : decode μ.2.1 pc = .ok (.bastore, 1)) (ha : lk a = (10, N)) (hx : narrow .boolean (.int x) = .int x) (hi : i = nI j) (hj : j < N) (kk : Wp E K μ d f (pc + 1) L st 168 (wI M a j x) k n Z) : Wp E K μ d f pc L (.int x :: .int i :: .ref (K.1 + a) :: st) 168 M k n Z := wp_bast hd ha (lk_lt' ha (by decide)) hx (by rw [hi]; exact vp_in_nI hj (lk_n ha)) (by rw [hi, nI_clamp (Nat.lt_trans hj (lk_n ha))]; exact kk)
theorem wf_aastT {a b N j : Nat} {i : Int32} (hd : decode μ.2.1 pc = .ok (.aastore, 1)) (ha : lk a = (11, N)) (hb : lk b = (6, 0)) (hi : i = nI j) (hj : j < N) (kk : Wp E K μ d f (pc + 1) L st 168 (wR M a j (some b)) k n Z) : Wp E K μ d f pc L (.ref (K.1 + b) :: .int i :: .ref (K.1 + a) :: st) 168 M k n Z := wp_aastT hd ha (lk_lt' ha (by decide)) hb (lk_lt' hb (by decide)) (by rw [hi]; exact vp_in_nI hj (lk_n ha)) (by rw [hi, nI_clamp (Nat.lt_trans hj (lk_n ha))]; exact kk)
theorem wf_alen {a N : Nat} (hd : decode μ.2.1 pc = .ok (.arraylength, 1)) (ha : lk a = (9, N)) (kk : Wp E K μ d f (pc + 1) L (.int (nI N) :: st) 168 M k n Z) : Wp E K μ d f pc L (.ref (K.1 + a) :: st) 168 M k n Z := wp_alen hd ha (lk_lt' ha (by decide)) kk
theorem wf_copy {idx a0 a N0 N1 m : Nat} {rest : List Value} (hd : decode μ.2.1 pc = .ok (.invokestatic idx, 3)) (hw : Cond.methodLink μ.1.cls idx arraycopyName ∈ gw) (ha0 : lk a0 = (9, N0)) (ha : lk a = (9, N1)) (h4 : m ≤ N0) (h5 : m ≤ N1) (hcat : (rest.map fun v => v.category).sum ≤ 8) (hdd : 0 < d)
    (kk : Wp E K μ d f (pc + 3) L rest 168 (wC M a0 0 a 0 m) k n Z) : Wp E K μ d f pc L (.int (nI m) :: .int (nI 0) :: .ref (K.1 + a) :: .int (nI 0) :: .ref (K.1 + a0) :: rest) 168 M k n Z := by
  have hm : m < 2 ^ 31 := Nat.lt_of_le_of_lt h4 (lk_n ha0)
  have h0 : (nI 0).toNatClampNeg = 0 := nI_clamp (by decide)
  refine wp_copy (N0 := N0) (N1 := N1) hd hw ha0 ha (lk_lt' ha0 (by decide)) (lk_lt' ha (by decide)) (nI_pos (by decide)) (nI_pos (by decide)) (nI_pos hm) (by rw [h0, nI_clamp hm]; omega) (by rw [h0, nI_clamp hm]; omega) hcat hdd ?_
  rw [h0, nI_clamp hm]
  exact kk
/-- contracts of the system made: with an int, a long, no answer -/
abbrev Ci (l : Launch) (K : CtxT) (d : Nat) (μ : MI) (vs : List Value) (M : Mm) (Q : Int32 → Mm → Prop) : Prop := Ct l K d μ vs 168 M 0 0 (fun v M' => ∃ r, v = some (.int r) ∧ Q r M')
abbrev Cl (l : Launch) (K : CtxT) (d : Nat) (μ : MI) (vs : List Value) (M : Mm) (Q : Int64 → Mm → Prop) : Prop := Ct l K d μ vs 168 M 0 0 (fun v M' => ∃ r, v = some (.long r) ∧ Q r M')
abbrev Cv (l : Launch) (K : CtxT) (d : Nat) (μ : MI) (vs : List Value) (M : Mm) (Q : Mm → Prop) : Prop := Ct l K d μ vs 168 M 0 0 (fun v M' => v = none ∧ Q M')
def zI (E : EnvT) (K : CtxT) (Q : Int32 → Mm → Prop) : State → Prop := zM E K 168 0 0 (fun v M' => ∃ r, v = some (.int r) ∧ Q r M')
def zL (E : EnvT) (K : CtxT) (Q : Int64 → Mm → Prop) : State → Prop := zM E K 168 0 0 (fun v M' => ∃ r, v = some (.long r) ∧ Q r M')
def zV (E : EnvT) (K : CtxT) (Q : Mm → Prop) : State → Prop := zM E K 168 0 0 (fun v M' => v = none ∧ Q M')
theorem ci_of {l : Launch} {vs : List Value} {Q : Int32 → Mm → Prop} (hp : plainName μ.1.cls = true) (hlen : (lg_sl vs).length ≤ μ.2.2.1) (hL : enl vs ++ List.replicate (μ.2.2.1 - (enl vs).length) none = L) (hL2 : L.length = μ.2.2.1)
    (body : ∀ E : EnvT, Wp E K μ d (0, 0) 0 L [] 168 M 0 0 (zI E K Q)) : Ci l K d μ vs M Q := ct_of hp hlen hL hL2 (fun E _ => body E)
theorem cl_of {l : Launch} {vs : List Value} {Q : Int64 → Mm → Prop} (hp : plainName μ.1.cls = true) (hlen : (lg_sl vs).length ≤ μ.2.2.1) (hL : enl vs ++ List.replicate (μ.2.2.1 - (enl vs).length) none = L) (hL2 : L.length = μ.2.2.1)
    (body : ∀ E : EnvT, Wp E K μ d (0, 0) 0 L [] 168 M 0 0 (zL E K Q)) : Cl l K d μ vs M Q := ct_of hp hlen hL hL2 (fun E _ => body E)
theorem cv_of {l : Launch} {vs : List Value} {Q : Mm → Prop} (hp : plainName μ.1.cls = true) (hlen : (lg_sl vs).length ≤ μ.2.2.1) (hL : enl vs ++ List.replicate (μ.2.2.1 - (enl vs).length) none = L) (hL2 : L.length = μ.2.2.1)
    (body : ∀ E : EnvT, Wp E K μ d (0, 0) 0 L [] 168 M 0 0 (zV E K Q)) : Cv l K d μ vs M Q := ct_of hp hlen hL hL2 (fun E _ => body E)
theorem wf_iret {x : Int32} {Q : Int32 → Mm → Prop} (hd : decode μ.2.1 pc = .ok (.ireturn, 1)) (hr : μ.2.2.2 = some .int) (hq : Q x M) : Wp E K μ d f pc L [.int x] 168 M 0 0 (zI E K Q) := wp_iret hd hr ⟨_, rfl, hq⟩
theorem wf_zret {x : Int32} {Q : Int32 → Mm → Prop} (b : Bool) (hd : decode μ.2.1 pc = .ok (.ireturn, 1)) (hr : μ.2.2.2 = some .boolean) (hb : x = b2i b) (hq : Q (b2i b) M) : Wp E K μ d f pc L [.int x] 168 M 0 0 (zI E K Q) := by
  subst hb
  exact wp_zret hd hr (b2i_nar b) ⟨_, rfl, hq⟩
theorem wf_lret {x : Int64} {Q : Int64 → Mm → Prop} (hd : decode μ.2.1 pc = .ok (.lreturn, 1)) (hr : μ.2.2.2 = some .long) (hq : Q x M) : Wp E K μ d f pc L [.long x] 168 M 0 0 (zL E K Q) := wp_lret hd hr ⟨_, rfl, hq⟩
theorem wf_vret {Q : Mm → Prop} (hd : decode μ.2.1 pc = .ok (.return_, 1)) (hr : μ.2.2.2 = none) (hq : Q M) : Wp E K μ d f pc L [] 168 M 0 0 (zV E K Q) := wp_vret hd hr ⟨rfl, hq⟩
theorem wf_callVi {Q' : Int32 → Mm → Prop} {d' idx nn a ci : Nat} {μ' : MI} {As rest : List Value} {q : vw_C} (hd : decode μ.2.1 pc = .ok (.invokevirtual idx, 3)) (hw : CLv μ.1.cls idx μ' nn) (hC : Ci (el E) K d' μ' (.ref (K.1 + a) :: As) M Q') (ha : lk a = (ci, 0)) (hc : vwCl[ci]? = some q) (hq : q.1 = μ'.1.cls) (hst : st = As.reverse ++ .ref (K.1 + a) :: rest) (hlen : As.length = nn) (hcat : (rest.map fun v => v.category).sum ≤ 8) (hdd : d' < d) (hrm : k ≤ f.1 ∧ n ≤ f.2) (kk : ∀ r M', Q' r M' → Wp E K μ d f (pc + 3) L (.int r :: rest) 168 M' k n Z) : Wp E K μ d f pc L st 168 M k n Z :=
  wp_callV hd hw hC ha hc hq (lk_lt' ha (by have := cl_lt hc; omega)) hst hlen hcat hdd hrm (fun v M' h => by obtain ⟨r, rfl, h⟩ := h; exact kk r M' h)
theorem wf_callVl {Q' : Int64 → Mm → Prop} {d' idx nn a ci : Nat} {μ' : MI} {As rest : List Value} {q : vw_C} (hd : decode μ.2.1 pc = .ok (.invokevirtual idx, 3)) (hw : CLv μ.1.cls idx μ' nn) (hC : Cl (el E) K d' μ' (.ref (K.1 + a) :: As) M Q') (ha : lk a = (ci, 0)) (hc : vwCl[ci]? = some q) (hq : q.1 = μ'.1.cls) (hst : st = As.reverse ++ .ref (K.1 + a) :: rest) (hlen : As.length = nn) (hcat : (rest.map fun v => v.category).sum ≤ 8) (hdd : d' < d) (hrm : k ≤ f.1 ∧ n ≤ f.2) (kk : ∀ r M', Q' r M' → Wp E K μ d f (pc + 3) L (.long r :: rest) 168 M' k n Z) : Wp E K μ d f pc L st 168 M k n Z :=
  wp_callV hd hw hC ha hc hq (lk_lt' ha (by have := cl_lt hc; omega)) hst hlen hcat hdd hrm (fun v M' h => by obtain ⟨r, rfl, h⟩ := h; exact kk r M' h)
theorem wf_callVv {Q' : Mm → Prop} {d' idx nn a ci : Nat} {μ' : MI} {As rest : List Value} {q : vw_C} (hd : decode μ.2.1 pc = .ok (.invokevirtual idx, 3)) (hw : CLv μ.1.cls idx μ' nn) (hC : Cv (el E) K d' μ' (.ref (K.1 + a) :: As) M Q') (ha : lk a = (ci, 0)) (hc : vwCl[ci]? = some q) (hq : q.1 = μ'.1.cls) (hst : st = As.reverse ++ .ref (K.1 + a) :: rest) (hlen : As.length = nn) (hcat : (rest.map fun v => v.category).sum ≤ 8) (hdd : d' < d) (hrm : k ≤ f.1 ∧ n ≤ f.2) (kk : ∀ M', Q' M' → Wp E K μ d f (pc + 3) L rest 168 M' k n Z) : Wp E K μ d f pc L st 168 M k n Z :=
  wp_callV hd hw hC ha hc hq (lk_lt' ha (by have := cl_lt hc; omega)) hst hlen hcat hdd hrm (fun v M' h => by obtain ⟨rfl, h⟩ := h; exact kk M' h)
theorem wf_callSi {Q' : Int32 → Mm → Prop} {d' idx nn : Nat} {μ' : MI} {As rest : List Value} (hd : decode μ.2.1 pc = .ok (.invokestatic idx, 3)) (hw : CLs μ.1.cls idx μ' nn) (hC : Ci (el E) K d' μ' As M Q') (hst : st = As.reverse ++ rest) (hlen : As.length = nn) (hcat : (rest.map fun v => v.category).sum ≤ 8) (hdd : d' < d) (hrm : k ≤ f.1 ∧ n ≤ f.2) (kk : ∀ r M', Q' r M' → Wp E K μ d f (pc + 3) L (.int r :: rest) 168 M' k n Z) : Wp E K μ d f pc L st 168 M k n Z :=
  wp_callS hd hw hC hst hlen hcat hdd hrm (fun v M' h => by obtain ⟨r, rfl, h⟩ := h; exact kk r M' h)
theorem wf_callSl {Q' : Int64 → Mm → Prop} {d' idx nn : Nat} {μ' : MI} {As rest : List Value} (hd : decode μ.2.1 pc = .ok (.invokestatic idx, 3)) (hw : CLs μ.1.cls idx μ' nn) (hC : Cl (el E) K d' μ' As M Q') (hst : st = As.reverse ++ rest) (hlen : As.length = nn) (hcat : (rest.map fun v => v.category).sum ≤ 8) (hdd : d' < d) (hrm : k ≤ f.1 ∧ n ≤ f.2) (kk : ∀ r M', Q' r M' → Wp E K μ d f (pc + 3) L (.long r :: rest) 168 M' k n Z) : Wp E K μ d f pc L st 168 M k n Z :=
  wp_callS hd hw hC hst hlen hcat hdd hrm (fun v M' h => by obtain ⟨r, rfl, h⟩ := h; exact kk r M' h)
theorem wf_callSv {Q' : Mm → Prop} {d' idx nn : Nat} {μ' : MI} {As rest : List Value} (hd : decode μ.2.1 pc = .ok (.invokestatic idx, 3)) (hw : CLs μ.1.cls idx μ' nn) (hC : Cv (el E) K d' μ' As M Q') (hst : st = As.reverse ++ rest) (hlen : As.length = nn) (hcat : (rest.map fun v => v.category).sum ≤ 8) (hdd : d' < d) (hrm : k ≤ f.1 ∧ n ≤ f.2) (kk : ∀ M', Q' M' → Wp E K μ d f (pc + 3) L rest 168 M' k n Z) : Wp E K μ d f pc L st 168 M k n Z :=
  wp_callS hd hw hC hst hlen hcat hdd hrm (fun v M' h => by obtain ⟨rfl, h⟩ := h; exact kk M' h)
theorem wf_callSNi {Q' : Int32 → Mm → Prop} {d' idx nn : Nat} {host : String} {μ' : MI} {As rest : List Value} (hd : decode μ.2.1 pc = .ok (.invokestatic idx, 3)) (hw : CLsN μ.1.cls idx μ' nn host) (hC : Ci (el E) K d' μ' As M Q') (hst : st = As.reverse ++ rest) (hlen : As.length = nn) (hcat : (rest.map fun v => v.category).sum ≤ 8) (hdd : d' < d) (hrm : k ≤ f.1 ∧ n ≤ f.2) (kk : ∀ r M', Q' r M' → Wp E K μ d f (pc + 3) L (.int r :: rest) 168 M' k n Z) : Wp E K μ d f pc L st 168 M k n Z :=
  wp_callSN hd hw hC hst hlen hcat hdd hrm (fun v M' h => by obtain ⟨r, rfl, h⟩ := h; exact kk r M' h)
theorem wf_callSNl {Q' : Int64 → Mm → Prop} {d' idx nn : Nat} {host : String} {μ' : MI} {As rest : List Value} (hd : decode μ.2.1 pc = .ok (.invokestatic idx, 3)) (hw : CLsN μ.1.cls idx μ' nn host) (hC : Cl (el E) K d' μ' As M Q') (hst : st = As.reverse ++ rest) (hlen : As.length = nn) (hcat : (rest.map fun v => v.category).sum ≤ 8) (hdd : d' < d) (hrm : k ≤ f.1 ∧ n ≤ f.2) (kk : ∀ r M', Q' r M' → Wp E K μ d f (pc + 3) L (.long r :: rest) 168 M' k n Z) : Wp E K μ d f pc L st 168 M k n Z :=
  wp_callSN hd hw hC hst hlen hcat hdd hrm (fun v M' h => by obtain ⟨r, rfl, h⟩ := h; exact kk r M' h)
theorem wf_callSNv {Q' : Mm → Prop} {d' idx nn : Nat} {host : String} {μ' : MI} {As rest : List Value} (hd : decode μ.2.1 pc = .ok (.invokestatic idx, 3)) (hw : CLsN μ.1.cls idx μ' nn host) (hC : Cv (el E) K d' μ' As M Q') (hst : st = As.reverse ++ rest) (hlen : As.length = nn) (hcat : (rest.map fun v => v.category).sum ≤ 8) (hdd : d' < d) (hrm : k ≤ f.1 ∧ n ≤ f.2) (kk : ∀ M', Q' M' → Wp E K μ d f (pc + 3) L rest 168 M' k n Z) : Wp E K μ d f pc L st 168 M k n Z :=
  wp_callSN hd hw hC hst hlen hcat hdd hrm (fun v M' h => by obtain ⟨rfl, h⟩ := h; exact kk M' h)
end WF
