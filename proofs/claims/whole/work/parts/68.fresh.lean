/-! what is made: a row of cells -/
def iv (b j : Nat) : Int32 := if ((lk b).1 = 2 ∧ j = 2) ∨ (b = 150 ∧ j = 6) then nI 12 else 0
def ir (b j : Nat) : Option Nat := if b = 32 ∧ j < 14 then some (33 + 6 * j) else if b = 131 ∧ j = 2 then some 142 else if b = 131 ∧ j = 3 then some 143 else rtab b j
/-- the cells from lo to hi are new, those below as they were -/
def Zo (lo hi : Nat) (M M' : Mm) : Prop := (∀ b, b < lo → ∀ j, M'.1 b j = M.1 b j ∧ M'.2.1 b j = M.2.1 b j ∧ M'.2.2 b j = M.2.2 b j) ∧ ∀ b, lo ≤ b → b < hi → ∀ j, M'.1 b j = iv b j ∧ M'.2.1 b j = 0 ∧ ∀ c, ir b j = some c → M'.2.2 b j = some c
/-- on the way: the object at a, its cells behind it up to nx; S: which of its references are set, L: whether its leash is -/
def Zp (a nx : Nat) (M M' : Mm) (S : Nat → Prop) (L : Bool) : Prop := (∀ b, b < a → ∀ j, M'.1 b j = M.1 b j ∧ M'.2.1 b j = M.2.1 b j ∧ M'.2.2 b j = M.2.2 b j) ∧ (∀ b, a < b → b < nx → ∀ j, M'.1 b j = iv b j ∧ M'.2.1 b j = 0 ∧ ∀ c, ir b j = some c → M'.2.2 b j = some c) ∧ (∀ j, M'.1 a j = (if L = true then iv a j else 0) ∧ M'.2.1 a j = 0) ∧ ∀ j c, S j → ir a j = some c → M'.2.2 a j = some c
theorem Zp.start {a : Nat} {M : Mm} (hz : ∀ j, M.1 a j = 0 ∧ M.2.1 a j = 0) : Zp a (a + 1) M M (fun _ => False) false :=
  ⟨fun b _ j => ⟨rfl, rfl, rfl⟩, fun b h1 h2 => by omega, fun j => ⟨by rw [(hz j).1]; rfl, (hz j).2⟩, fun j c h => h.elim⟩
theorem Zp.fin {a nx : Nat} {M M' : Mm} {S : Nat → Prop} {L : Bool} (z : Zp a nx M M' S L) (hS : ∀ j c, ir a j = some c → S j) (hL : L = true ∨ ∀ j, iv a j = 0) : Zo a nx M M' := by
  obtain ⟨z1, z2, z3, z4⟩ := z
  refine ⟨z1, fun b h1 h2 j => ?_⟩
  by_cases e : b = a
  · subst e
    refine ⟨(z3 j).1.trans ?_, (z3 j).2, fun c hc => z4 j c (hS j c hc) hc⟩
    rcases hL with h | h
    · rw [if_pos h]
    · rw [h j]; split <;> rfl
  · exact z2 b (by omega) h2 j
theorem Zp.int {a nx k : Nat} {x : Int32} {M M' : Mm} {S : Nat → Prop} {L : Bool} (z : Zp a nx M M' S L) (hx : x = if L = true then iv a k else 0) : Zp a nx M (wI M' a k x) S L := by
  obtain ⟨z1, z2, z3, z4⟩ := z
  refine ⟨fun b hb j => ⟨(wI_na (by omega)).trans (z1 b hb j).1, (z1 b hb j).2⟩, fun b h1 h2 j => ⟨(wI_na (by omega)).trans (z2 b h1 h2 j).1, (z2 b h1 h2 j).2⟩, fun j => ⟨?_, (z3 j).2⟩, z4⟩
  by_cases e : j = k
  · subst e; rw [wI_at, hx]
  · rw [wI_nk e]; exact (z3 j).1
theorem Zp.lea {a nx k : Nat} {M M' : Mm} {S : Nat → Prop} (z : Zp a nx M M' S false) (h1 : iv a k = nI 12) (h2 : ∀ j, j ≠ k → iv a j = 0) : Zp a nx M (wI M' a k (nI 12)) S true := by
  obtain ⟨z1, z2, z3, z4⟩ := z
  refine ⟨fun b hb j => ⟨(wI_na (by omega)).trans (z1 b hb j).1, (z1 b hb j).2⟩, fun b h1 h2 j => ⟨(wI_na (by omega)).trans (z2 b h1 h2 j).1, (z2 b h1 h2 j).2⟩, fun j => ⟨?_, (z3 j).2⟩, z4⟩
  rw [if_pos rfl]
  by_cases e : j = k
  · subst e; rw [wI_at, h1]
  · rw [wI_nk e, h2 j e]; exact (z3 j).1
theorem Zp.lng {a nx k : Nat} {M M' : Mm} {S : Nat → Prop} {L : Bool} (z : Zp a nx M M' S L) : Zp a nx M (wJ M' a k 0) S L := by
  obtain ⟨z1, z2, z3, z4⟩ := z
  have e : ∀ b j, M'.2.1 b j = 0 → (wJ M' a k 0).2.1 b j = 0 := fun b j h => by
    show (if b = a ∧ j = k then (0 : Int64) else M'.2.1 b j) = 0
    split
    · rfl
    · exact h
  refine ⟨fun b hb j => ⟨(z1 b hb j).1, ?_, (z1 b hb j).2.2⟩, fun b h1 h2 j => ⟨(z2 b h1 h2 j).1, e b j (z2 b h1 h2 j).2.1, (z2 b h1 h2 j).2.2⟩, fun j => ⟨(z3 j).1, e a j (z3 j).2⟩, z4⟩
  show (if b = a ∧ j = k then (0 : Int64) else M'.2.1 b j) = _
  rw [if_neg (by omega)]
  exact (z1 b hb j).2.1
theorem wR_at (M : Mm) (a k : Nat) (x : Option Nat) : (wR M a k x).2.2 a k = x := by simp [wR]
theorem wR_nk {M : Mm} {a k j : Nat} {x : Option Nat} (h : j ≠ k) : (wR M a k x).2.2 a j = M.2.2 a j := by simp [wR, h]
theorem wR_na {M : Mm} {a k b j : Nat} {x : Option Nat} (h : b ≠ a) : (wR M a k x).2.2 b j = M.2.2 b j := by simp [wR, h]
theorem Zp.obj {a nx m kf : Nat} {M M1 M2 : Mm} {S : Nat → Prop} {L : Bool} (z : Zp a nx M M1 S L) (ha : a < nx) (hz : Zo nx (nx + m) M1 M2) (hr : ir a kf = some nx) : Zp a (nx + m) M (wR M2 a kf (some nx)) (fun j => j = kf ∨ S j) L := by
  obtain ⟨z1, z2, z3, z4⟩ := z
  obtain ⟨y1, y2⟩ := hz
  refine ⟨fun b hb j => ⟨(y1 b (by omega) j).1.trans (z1 b hb j).1, (y1 b (by omega) j).2.1.trans (z1 b hb j).2.1, (wR_na (by omega)).trans ((y1 b (by omega) j).2.2.trans (z1 b hb j).2.2)⟩, fun b h1 h2 j => ?_, fun j => ⟨(y1 a ha j).1.trans (z3 j).1, (y1 a ha j).2.1.trans (z3 j).2⟩, fun j c hS hc => ?_⟩
  · rw [wR_na (by omega)]
    by_cases e : b < nx
    · obtain ⟨g1, g2, g3⟩ := z2 b h1 e j
      obtain ⟨f1, f2, f3⟩ := y1 b e j
      exact ⟨f1.trans g1, f2.trans g2, fun c hc => f3.trans (g3 c hc)⟩
    · exact y2 b (by omega) h2 j
  · by_cases e : j = kf
    · subst e; rw [wR_at, ← hc, hr]
    · rw [wR_nk e, (y1 a ha j).2.2]
      rcases hS with q | q
      · exact absurd q e
      · exact z4 j c q hc
theorem Zo.w0 {lo hi : Nat} {M M' : Mm} (z : Zo lo hi (wZ M lo) M') : Zo lo hi M M' := by
  refine ⟨fun b hb j => ?_, z.2⟩
  obtain ⟨h1, h2, h3⟩ := z.1 b hb j
  have e : b ≠ lo := by omega
  exact ⟨h1.trans (by simp [wZ, e]), h2.trans (by simp [wZ, e]), h3.trans (by simp [wZ, e])⟩
theorem Zo.arr {nx : Nat} {M : Mm} (h9 : ∃ N, lk nx = (9, N) ∨ lk nx = (10, N)) : Zo nx (nx + 1) M (wZ M nx) := by
  have hk : (lk nx).1 = 9 ∨ (lk nx).1 = 10 := by
    obtain ⟨N, h | h⟩ := h9
    · left; rw [h]
    · right; rw [h]
  have n32 : nx ≠ 32 := by rintro rfl; revert hk; decide
  have n131 : nx ≠ 131 := by rintro rfl; revert hk; decide
  have n150 : nx ≠ 150 := by rintro rfl; revert hk; decide
  refine ⟨fun b hb j => ?_, fun b h1 h2 j => ?_⟩
  · have e : b ≠ nx := by omega
    exact ⟨by simp [wZ, e], by simp [wZ, e], by simp [wZ, e]⟩
  · obtain rfl : b = nx := by omega
    refine ⟨?_, by simp [wZ], fun c hc => ?_⟩
    · unfold iv
      rw [if_neg (by rintro (q | q); omega; exact n150 q.1)]
      simp [wZ]
    · exfalso
      unfold ir at hc
      rw [if_neg (fun q => n32 q.1), if_neg (fun q => n131 q.1), if_neg (fun q => n131 q.1)] at hc
      unfold rtab at hc
      rcases hk with q | q <;> rw [q] at hc <;> cases hc
theorem Zp.arr {a nx kf : Nat} {M M1 : Mm} {S : Nat → Prop} {L : Bool} (z : Zp a nx M M1 S L) (ha : a < nx) (h9 : ∃ N, lk nx = (9, N) ∨ lk nx = (10, N)) (hr : ir a kf = some nx) : Zp a (nx + 1) M (wR (wZ M1 nx) a kf (some nx)) (fun j => j = kf ∨ S j) L := z.obj ha (Zo.arr h9) hr
theorem Zp.blk {a nx m : Nat} {M M1 M2 : Mm} {S : Nat → Prop} {L : Bool} (z : Zp a nx M M1 S L) (ha : a < nx) (hz : Zo nx (nx + m) M1 M2) : Zp a (nx + m) M M2 S L := by
  obtain ⟨z1, z2, z3, z4⟩ := z
  obtain ⟨y1, y2⟩ := hz
  refine ⟨fun b hb j => ⟨(y1 b (by omega) j).1.trans (z1 b hb j).1, (y1 b (by omega) j).2.1.trans (z1 b hb j).2.1, (y1 b (by omega) j).2.2.trans (z1 b hb j).2.2⟩, fun b h1 h2 j => ?_, fun j => ⟨(y1 a ha j).1.trans (z3 j).1, (y1 a ha j).2.1.trans (z3 j).2⟩, fun j c hS hc => (y1 a ha j).2.2.trans (z4 j c hS hc)⟩
  by_cases e : b < nx
  · obtain ⟨g1, g2, g3⟩ := z2 b h1 e j
    obtain ⟨f1, f2, f3⟩ := y1 b e j
    exact ⟨f1.trans g1, f2.trans g2, fun c hc => f3.trans (g3 c hc)⟩
  · exact y2 b (by omega) h2 j
/-- an array just made, not yet counted in -/
theorem Zp.ref {a nx kf : Nat} {M M1 : Mm} {S : Nat → Prop} {L : Bool} (z : Zp a nx M M1 S L) (ha : a < nx) (hr : ir a kf = some nx) : Zp a nx M (wR (wZ M1 nx) a kf (some nx)) (fun j => j = kf ∨ S j) L := by
  obtain ⟨z1, z2, z3, z4⟩ := z
  have e : ∀ b, b < nx → ∀ j, (wZ M1 nx).1 b j = M1.1 b j ∧ (wZ M1 nx).2.1 b j = M1.2.1 b j ∧ (wZ M1 nx).2.2 b j = M1.2.2 b j := fun b hb j => by
    have e : b ≠ nx := by omega
    exact ⟨by simp [wZ, e], by simp [wZ, e], by simp [wZ, e]⟩
  refine ⟨fun b hb j => ⟨(e b (by omega) j).1.trans (z1 b hb j).1, (e b (by omega) j).2.1.trans (z1 b hb j).2.1, (wR_na (by omega)).trans ((e b (by omega) j).2.2.trans (z1 b hb j).2.2)⟩, fun b h1 h2 j => ?_, fun j => ⟨(e a ha j).1.trans (z3 j).1, (e a ha j).2.1.trans (z3 j).2⟩, fun j c hS hc => ?_⟩
  · rw [wR_na (by omega)]
    obtain ⟨g1, g2, g3⟩ := z2 b h1 h2 j
    exact ⟨(e b h2 j).1.trans g1, (e b h2 j).2.1.trans g2, fun c hc => (e b h2 j).2.2.trans (g3 c hc)⟩
  · by_cases ej : j = kf
    · subst ej; rw [wR_at, ← hc, hr]
    · rw [wR_nk ej, (e a ha j).2.2]
      rcases hS with q | q
      · exact absurd q ej
      · exact z4 j c q hc
theorem wZ_z (M : Mm) (a j : Nat) : (wZ M a).1 a j = 0 ∧ (wZ M a).2.1 a j = 0 := by simp [wZ]
theorem IT.n {t : Nat} (h : IT t) : t ≠ 32 ∧ t ≠ 131 ∧ t ≠ 150 := by
  have := h.1
  refine ⟨?_, ?_, ?_⟩ <;> (rintro rfl; revert this; decide)
theorem IL.n {t : Nat} (h : IL t) : t ≠ 32 ∧ t ≠ 131 ∧ t ≠ 150 := by
  have := h.1
  refine ⟨?_, ?_, ?_⟩ <;> (rintro rfl; revert this; decide)
theorem ir_n {b j : Nat} (h : b ≠ 32 ∧ b ≠ 131) : ir b j = rtab b j := by
  unfold ir
  rw [if_neg (fun q => h.1 q.1), if_neg (fun q => h.2 q.1), if_neg (fun q => h.2 q.1)]
theorem iv_T {t : Nat} (h : IT t) (j : Nat) : iv t j = 0 := by
  unfold iv
  rw [if_neg]
  rintro (q | q)
  · rw [h.1] at q; exact absurd q.1 (by decide)
  · exact h.n.2.2 q.1
theorem iv_L {w : Nat} (h : IL w) : iv w 2 = nI 12 ∧ ∀ j, j ≠ 2 → iv w j = 0 := by
  refine ⟨?_, fun j hj => ?_⟩
  · unfold iv; rw [if_pos (Or.inl ⟨by rw [h.1], rfl⟩)]
  · unfold iv
    rw [if_neg]
    rintro (q | q)
    · exact hj q.2
    · exact h.n.2.2 q.1
theorem ir_T {t : Nat} (h : IT t) (j : Nat) : ir t j = if 2 ≤ j ∧ j ≤ 6 then some (t + (j - 1)) else none := by
  rw [ir_n ⟨h.n.1, h.n.2.1⟩]
  unfold rtab
  rw [h.1]
  rfl
theorem ir_L {w : Nat} (h : IL w) (j : Nat) : ir w j = if 4 ≤ j ∧ j ≤ 7 then some (w + (j - 3)) else none := by
  rw [ir_n ⟨h.n.1, h.n.2.1⟩]
  unfold rtab
  rw [h.1]
  rfl
theorem Zo.multi {M : Mm} : Zo 133 (133 + 9) M (wG M 133 8) := by
  refine ⟨fun b hb j => ?_, fun b h1 h2 j => ?_⟩
  · exact ⟨by simp [wG, show ¬ 133 ≤ b by omega], by simp [wG, show ¬ 133 ≤ b by omega], by simp [wG, show ¬ 133 ≤ b by omega, show ¬ b = 133 by omega]⟩
  · have h3 : 133 ≤ b ∧ b ≤ 133 + 8 := by omega
    refine ⟨?_, by simp [wG, h3], fun c hc => ?_⟩
    · have : iv b j = 0 := by
        have e : ∀ i, i < 9 → (lk (133 + i)).1 ≠ 2 := by decide +kernel
        have e := e (b - 133) (by omega)
        rw [show 133 + (b - 133) = b by omega] at e
        unfold iv
        rw [if_neg]
        rintro (q | q)
        · exact e q.1
        · omega
      rw [this]
      simp [wG, h3]
    · rw [ir_n (by omega)] at hc
      by_cases e : b = 133
      · subst e
        have hk : (lk 133).1 = 12 := rfl
        unfold rtab at hc
        rw [hk] at hc
        have hc : (if j < 8 then some (133 + 1 + j) else none) = some c := hc
        show (if (133 : Nat) = 133 then (if j < 8 then some (133 + 1 + j) else none) else (if (133 : Nat) ≤ 133 ∧ (133 : Nat) ≤ 133 + 8 then none else M.2.2 133 j)) = some c
        rw [if_pos rfl]
        exact hc
      · exfalso
        have hk : ∀ i, i < 8 → (lk (134 + i)).1 = 9 := by decide +kernel
        have hk := hk (b - 134) (by omega)
        rw [show 134 + (b - 134) = b by omega] at hk
        unfold rtab at hc
        rw [hk] at hc
        cases hc
theorem zp_hide {E : EnvT} {K : CtxT} {μ : MI} {d : Nat} {f : Nat × Nat} {pc : Nat} {L : List (Option Value)} {st : List Value} {a nx : Nat} {M0 M1 : Mm} {S : Nat → Prop} {B : Bool} {k n : Nat} {Z : State → Prop} (z : Zp a nx M0 M1 S B) (kk : ∀ N, Zp a nx M0 N S B → Wp E K μ d f pc L st nx N k n Z) : Wp E K μ d f pc L st nx M1 k n Z := kk M1 z
theorem rt_big {a j : Nat} (hj : 31 ≤ j) (hk : (lk a).1 < 9) : rtab a j = none := by
  unfold rtab
  generalize (lk a).1 = k at hk
  match k, hk with
  | 0, _ => exact if_neg (by omega)
  | 1, _ => exact (if_neg (by omega)).trans (if_neg (by omega))
  | 2, _ => exact if_neg (by omega)
  | 3, _ => exact (if_neg (by omega)).trans (if_neg (by omega))
  | 4, _ => exact if_neg (by omega)
  | 5, _ => exact if_neg (by omega)
  | 6, _ => exact if_neg (by omega)
  | 7, _ =>
    show [some 1, none, some 2, some 14, some 19, some 25, some 31, some 117, some 131, some 144][j]?.join = none
    rw [List.getElem?_eq_none (by show 10 ≤ j; omega)]
    rfl
  | 8, _ =>
    show [none, some 151, none, none, none, none, none, some 152, some 153, some 154, none, none, none, some 155, some 156, some 157, some 158, some 159, some 160, none, some 161, some 162, none, some 163, some 164, some 165, none, some 166, some 167][j]?.join = none
    rw [List.getElem?_eq_none (by show 29 ≤ j; omega)]
    rfl
theorem ir_big {a j : Nat} (hj : 31 ≤ j) (hk : (lk a).1 < 9) (h : a ≠ 32) : ir a j = none := by
  unfold ir
  rw [if_neg (fun q => h q.1), if_neg (fun q => by omega), if_neg (fun q => by omega)]
  exact rt_big hj hk
theorem ir_lo_X3 : ∀ j c, ir 2 j = some c → j = 0 ∨ j = 1 := by
  have e : ∀ j, j < 31 → ir 2 j ≠ none → j = 0 ∨ j = 1 := by decide +kernel
  intro j c h
  rcases Nat.lt_or_ge j 31 with q | q
  · exact e j q (by rw [h]; simp)
  · rw [ir_big q (by decide) (by decide)] at h; cases h
theorem ir_lo_X0 : ∀ j c, ir 31 j = some c → j = 1 := by
  have e : ∀ j, j < 31 → ir 31 j ≠ none → j = 1 := by decide +kernel
  intro j c h
  rcases Nat.lt_or_ge j 31 with q | q
  · exact e j q (by rw [h]; simp)
  · rw [ir_big q (by decide) (by decide)] at h; cases h
theorem ir_lo_X6 : ∀ j c, ir 117 j = some c → j = 0 := by
  have e : ∀ j, j < 31 → ir 117 j ≠ none → j = 0 := by decide +kernel
  intro j c h
  rcases Nat.lt_or_ge j 31 with q | q
  · exact e j q (by rw [h]; simp)
  · rw [ir_big q (by decide) (by decide)] at h; cases h
theorem ir_lo_X1 : ∀ j c, ir 131 j = some c → j = 0 ∨ j = 1 ∨ j = 2 ∨ j = 3 := by
  have e : ∀ j, j < 31 → ir 131 j ≠ none → j = 0 ∨ j = 1 ∨ j = 2 ∨ j = 3 := by decide +kernel
  intro j c h
  rcases Nat.lt_or_ge j 31 with q | q
  · exact e j q (by rw [h]; simp)
  · rw [ir_big q (by decide) (by decide)] at h; cases h
theorem ir_lo_X5 : ∀ j c, ir 144 j = some c → j = 1 ∨ j = 2 ∨ j = 3 ∨ j = 4 ∨ j = 5 := by
  have e : ∀ j, j < 31 → ir 144 j ≠ none → j = 1 ∨ j = 2 ∨ j = 3 ∨ j = 4 ∨ j = 5 := by decide +kernel
  intro j c h
  rcases Nat.lt_or_ge j 31 with q | q
  · exact e j q (by rw [h]; simp)
  · rw [ir_big q (by decide) (by decide)] at h; cases h
theorem ir_lo_X8 : ∀ j c, ir 0 j = some c → j = 0 ∨ j = 2 ∨ j = 3 ∨ j = 4 ∨ j = 5 ∨ j = 6 ∨ j = 7 ∨ j = 8 ∨ j = 9 := by
  have e : ∀ j, j < 31 → ir 0 j ≠ none → j = 0 ∨ j = 2 ∨ j = 3 ∨ j = 4 ∨ j = 5 ∨ j = 6 ∨ j = 7 ∨ j = 8 ∨ j = 9 := by decide +kernel
  intro j c h
  rcases Nat.lt_or_ge j 31 with q | q
  · exact e j q (by rw [h]; simp)
  · rw [ir_big q (by decide) (by decide)] at h; cases h
theorem ir_lo_X9 : ∀ j c, ir 150 j = some c → j = 1 ∨ j = 7 ∨ j = 8 ∨ j = 9 ∨ j = 13 ∨ j = 14 ∨ j = 15 ∨ j = 16 ∨ j = 17 ∨ j = 18 ∨ j = 20 ∨ j = 21 ∨ j = 23 ∨ j = 24 ∨ j = 25 ∨ j = 27 ∨ j = 28 := by
  have e : ∀ j, j < 31 → ir 150 j ≠ none → j ∈ [1, 7, 8, 9, 13, 14, 15, 16, 17, 18, 20, 21, 23, 24, 25, 27, 28] := by decide +kernel
  intro j c h
  rcases Nat.lt_or_ge j 31 with q | q
  · have := e j q (by rw [h]; simp)
    simpa using this
  · rw [ir_big q (by decide) (by decide)] at h; cases h
theorem zp_hide3 {E : EnvT} {K : CtxT} {μ : MI} {d : Nat} {f : Nat × Nat} {pc : Nat} {L : List (Option Value)} {st : List Value} {a nx nx' b : Nat} {M0 M1 : Mm} {S : Nat → Prop} {B : Bool} {k n : Nat} {Z : State → Prop} (z : Zp a nx' M0 M1 S B) (h : ∀ j, M1.1 b j = 0 ∧ M1.2.1 b j = 0) (kk : ∀ N, Zp a nx' M0 N S B → (∀ j, N.1 b j = 0 ∧ N.2.1 b j = 0) → Wp E K μ d f pc L st nx N k n Z) : Wp E K μ d f pc L st nx M1 k n Z := kk M1 z h
theorem Zp.mono {a nx : Nat} {M M' : Mm} {S S' : Nat → Prop} {L : Bool} (z : Zp a nx M M' S L) (h : ∀ j, S' j → S j) : Zp a nx M M' S' L := ⟨z.1, z.2.1, z.2.2.1, fun j c hS hc => z.2.2.2 j c (h j hS) hc⟩
theorem iv_r {b : Nat} (h : (lk b).1 = 11) (h2 : b ≠ 150) (j : Nat) : iv b j = 0 := by
  unfold iv
  rw [if_neg]
  rintro (q | q)
  · rw [h] at q; exact absurd q.1 (by decide)
  · exact h2 q.1
theorem ir_32 {j c : Nat} (h : ir 32 j = some c) : j < 14 := by
  rcases Nat.lt_or_ge j 14 with q | q
  · exact q
  · exfalso
    unfold ir at h
    rw [if_neg (fun w => by omega), if_neg (fun w => by omega), if_neg (fun w => by omega)] at h
    have h : (none : Option Nat) = some c := h
    cases h
theorem ir_118 {j c : Nat} (h : ir 118 j = some c) : j < 2 := by
  rcases Nat.lt_or_ge j 2 with q | q
  · exact q
  · exfalso
    unfold ir at h
    rw [if_neg (fun w => by omega), if_neg (fun w => by omega), if_neg (fun w => by omega)] at h
    have h : (if j < 2 then some (119 + 6 * j) else none) = some c := h
    rw [if_neg (by omega)] at h
    cases h
