/-! rows of figures -/
theorem cntC_add (f : Nat → Bool) (a : Nat) : ∀ b, cntC f (a + b) = cntC f a + cntC (fun i => f (a + i)) b
  | 0 => rfl
  | b + 1 => by
    show cntC f (a + b) + (if f (a + b) = true then 1 else 0) = cntC f a + (cntC (fun i => f (a + i)) b + (if f (a + b) = true then 1 else 0))
    rw [cntC_add f a b]
    omega
theorem cntC_congr {f g : Nat → Bool} : ∀ n, (∀ i, i < n → f i = g i) → cntC f n = cntC g n
  | 0, _ => rfl
  | n + 1, h => by
    show cntC f n + (if f n = true then 1 else 0) = cntC g n + (if g n = true then 1 else 0)
    rw [cntC_congr n (fun i hi => h i (by omega)), h n (by omega)]
theorem cntC_none {f : Nat → Bool} : ∀ n, (∀ i, i < n → f i = false) → cntC f n = 0
  | 0, _ => rfl
  | n + 1, h => by
    show cntC f n + (if f n = true then 1 else 0) = 0
    rw [cntC_none n (fun i hi => h i (by omega)), h n (by omega)]
    rfl
/-- the value of the first -/
def fsC (f : Nat → Bool) (v : Nat → Int32) : Nat → Int32
  | 0 => no9
  | k + 1 => if f k = true ∧ cntC f k = 0 then v k else fsC f v k
theorem fsC_none {f : Nat → Bool} {v : Nat → Int32} : ∀ n, cntC f n = 0 → fsC f v n = no9
  | 0, _ => rfl
  | n + 1, h => by
    have h : cntC f n + (if f n = true then 1 else 0) = 0 := h
    show (if f n = true ∧ cntC f n = 0 then v n else fsC f v n) = no9
    have h1 : ¬ f n = true := fun q => by rw [if_pos q] at h; omega
    rw [if_neg (fun q => h1 q.1)]
    exact fsC_none n (by omega)
theorem fsC_add (f : Nat → Bool) (v : Nat → Int32) (a : Nat) : ∀ b, fsC f v (a + b) = if cntC f a = 0 then fsC (fun i => f (a + i)) (fun i => v (a + i)) b else fsC f v a
  | 0 => by
    by_cases h : cntC f a = 0
    · rw [if_pos h]; exact fsC_none a h
    · rw [if_neg h]; rfl
  | b + 1 => by
    show (if f (a + b) = true ∧ cntC f (a + b) = 0 then v (a + b) else fsC f v (a + b)) = _
    rw [fsC_add f v a b]
    have hc := cntC_add f a b
    by_cases h : cntC f a = 0
    · rw [if_pos h, if_pos h]
      show _ = (if f (a + b) = true ∧ cntC (fun i => f (a + i)) b = 0 then v (a + b) else fsC (fun i => f (a + i)) (fun i => v (a + i)) b)
      rw [hc, h, Nat.zero_add]
    · rw [if_neg h, if_neg h, if_neg (fun q => h (by omega))]
theorem fsC_congr {f g : Nat → Bool} {v w : Nat → Int32} : ∀ n, (∀ i, i < n → f i = g i) → (∀ i, i < n → v i = w i) → fsC f v n = fsC g w n
  | 0, _, _ => rfl
  | n + 1, h, h2 => by
    show (if f n = true ∧ cntC f n = 0 then v n else fsC f v n) = (if g n = true ∧ cntC g n = 0 then w n else fsC g w n)
    rw [fsC_congr n (fun i hi => h i (by omega)) (fun i hi => h2 i (by omega)), h n (by omega), h2 n (by omega), cntC_congr n (fun i hi => h i (by omega))]
/-- from the step k and the street s on, the last r figures of a row -/
def wkB (pe : Nat → Int32) (g row : Nat) : Nat → Nat → Nat → Bool
  | 0, _, s => decide (s = g)
  | r + 1, k, s => !decide (nI (stN s (row / 3 ^ r % 3)) = pe k) && wkB pe g row r (k + 1) (stN s (row / 3 ^ r % 3))
/-- the last r figures of a row, told in tens -/
def dvN (row : Nat) : Nat → Nat → Nat
  | 0, v => v
  | r + 1, v => dvN row r (10 * v + row / 3 ^ r % 3)
/-- the last r figures of a row: the streets -/
def soN (row : Nat) : Nat → Nat → Nat → Nat
  | 0, _, S => S
  | r + 1, s, S => soN row r (stN s (row / 3 ^ r % 3)) (S ||| 2 ^ stN s (row / 3 ^ r % 3))
theorem dig_lo {a i r j : Nat} (hj : j < r) : (a * 3 ^ r + i) / 3 ^ j % 3 = i / 3 ^ j % 3 := by
  obtain ⟨q, rfl⟩ : ∃ q, r = j + (q + 1) := ⟨r - j - 1, by omega⟩
  rw [show a * 3 ^ (j + (q + 1)) + i = i + 3 ^ j * (a * 3 ^ q * 3) by rw [Nat.pow_add, Nat.pow_succ]; ac_rfl, Nat.add_mul_div_left _ _ (Nat.pow_pos (by decide))]
  omega
theorem dig_hi {a i r : Nat} (ha : a < 3) (hi : i < 3 ^ r) : (a * 3 ^ r + i) / 3 ^ r % 3 = a := by
  rw [Nat.mul_comm, Nat.mul_add_div (Nat.pow_pos (by decide)), Nat.div_eq_of_lt hi]
  omega
theorem wkB_lo {pe : Nat → Int32} {g a i q : Nat} : ∀ r k s, r ≤ q → wkB pe g (a * 3 ^ q + i) r k s = wkB pe g i r k s
  | 0, _, _, _ => rfl
  | r + 1, k, s, h => by
    show (!decide (nI (stN s ((a * 3 ^ q + i) / 3 ^ r % 3)) = pe k) && wkB pe g (a * 3 ^ q + i) r (k + 1) (stN s ((a * 3 ^ q + i) / 3 ^ r % 3))) = _
    rw [dig_lo (by omega), wkB_lo r _ _ (by omega)]
    rfl
theorem dvN_lo {a i q : Nat} : ∀ r v, r ≤ q → dvN (a * 3 ^ q + i) r v = dvN i r v
  | 0, _, _ => rfl
  | r + 1, v, h => by
    show dvN (a * 3 ^ q + i) r (10 * v + (a * 3 ^ q + i) / 3 ^ r % 3) = _
    rw [dig_lo (by omega), dvN_lo r _ (by omega)]
    rfl
theorem wkB_blk {pe : Nat → Int32} {g a r k s : Nat} (ha : a < 3) : cntC (fun i => wkB pe g (a * 3 ^ r + i) (r + 1) k s) (3 ^ r) = if nI (stN s a) = pe k then 0 else cntC (fun i => wkB pe g i r (k + 1) (stN s a)) (3 ^ r) := by
  have e : ∀ i, i < 3 ^ r → wkB pe g (a * 3 ^ r + i) (r + 1) k s = (!decide (nI (stN s a) = pe k) && wkB pe g i r (k + 1) (stN s a)) := fun i hi => by
    show (!decide (nI (stN s ((a * 3 ^ r + i) / 3 ^ r % 3)) = pe k) && wkB pe g (a * 3 ^ r + i) r (k + 1) (stN s ((a * 3 ^ r + i) / 3 ^ r % 3))) = _
    rw [dig_hi ha hi, wkB_lo r _ _ (Nat.le_refl _)]
  by_cases h : nI (stN s a) = pe k
  · rw [if_pos h]
    exact cntC_none _ (fun i hi => by rw [e i hi, decide_eq_true h]; rfl)
  · rw [if_neg h]
    exact cntC_congr _ (fun i hi => by rw [e i hi, decide_eq_false h]; rfl)
theorem fsC_blk {pe : Nat → Int32} {g a r k s v : Nat} (ha : a < 3) : fsC (fun i => wkB pe g (a * 3 ^ r + i) (r + 1) k s) (fun i => nI (dvN (a * 3 ^ r + i) (r + 1) v)) (3 ^ r) = if nI (stN s a) = pe k then no9 else fsC (fun i => wkB pe g i r (k + 1) (stN s a)) (fun i => nI (dvN i r (10 * v + a))) (3 ^ r) := by
  have e : ∀ i, i < 3 ^ r → wkB pe g (a * 3 ^ r + i) (r + 1) k s = (!decide (nI (stN s a) = pe k) && wkB pe g i r (k + 1) (stN s a)) := fun i hi => by
    show (!decide (nI (stN s ((a * 3 ^ r + i) / 3 ^ r % 3)) = pe k) && wkB pe g (a * 3 ^ r + i) r (k + 1) (stN s ((a * 3 ^ r + i) / 3 ^ r % 3))) = _
    rw [dig_hi ha hi, wkB_lo r _ _ (Nat.le_refl _)]
  by_cases h : nI (stN s a) = pe k
  · rw [if_pos h]
    exact fsC_none _ (cntC_none _ (fun i hi => by rw [e i hi, decide_eq_true h]; rfl))
  · rw [if_neg h]
    refine fsC_congr _ (fun i hi => by rw [e i hi, decide_eq_false h]; rfl) (fun i hi => ?_)
    show nI (dvN (a * 3 ^ r + i) r (10 * v + (a * 3 ^ r + i) / 3 ^ r % 3)) = _
    rw [dig_hi ha hi, dvN_lo r _ (Nat.le_refl _)]
theorem three {r : Nat} : 3 ^ (r + 1) = 3 ^ r + (3 ^ r + 3 ^ r) := by rw [Nat.pow_succ]; omega
theorem rows_cnt (pe : Nat → Int32) (g : Nat) : ∀ r k s, cntC (fun i => wkB pe g i r k s) (3 ^ r) = cwN pe g r k s
  | 0, k, s => by
    show 0 + (if decide (s = g) = true then 1 else 0) = if s = g then 1 else 0
    by_cases h : s = g <;> simp [h]
  | r + 1, k, s => by
    have ih := fun s => rows_cnt pe g r (k + 1) s
    have b0 := wkB_blk (pe := pe) (g := g) (r := r) (k := k) (s := s) (a := 0) (by decide)
    have b1 := wkB_blk (pe := pe) (g := g) (r := r) (k := k) (s := s) (a := 1) (by decide)
    have b2 := wkB_blk (pe := pe) (g := g) (r := r) (k := k) (s := s) (a := 2) (by decide)
    rw [ih] at b0 b1 b2
    rw [three, cntC_add, cntC_add]
    rw [show (fun i => wkB pe g (0 * 3 ^ r + i) (r + 1) k s) = fun i => wkB pe g i (r + 1) k s by funext i; rw [Nat.zero_mul, Nat.zero_add]] at b0
    rw [show (fun i => wkB pe g (1 * 3 ^ r + i) (r + 1) k s) = fun i => wkB pe g (3 ^ r + i) (r + 1) k s by funext i; rw [Nat.one_mul]] at b1
    rw [show (fun i => wkB pe g (2 * 3 ^ r + i) (r + 1) k s) = fun i => wkB pe g (3 ^ r + (3 ^ r + i)) (r + 1) k s by funext i; rw [show 2 * 3 ^ r + i = 3 ^ r + (3 ^ r + i) by omega]] at b2
    rw [b0, b1, b2]
    show _ = wbN pe _ k (stN s 0) + wbN pe _ k (stN s 1) + wbN pe _ k (stN s 2)
    unfold wbN
    rw [Nat.add_assoc]
theorem fst_key (W0 W1 W2 c0 c1 c2 : Nat) (p0 p1 p2 : Prop) [Decidable p0] [Decidable p1] [Decidable p2] (F : Nat → Int32) (w0 : W0 = if p0 then 0 else c0) (w1 : W1 = if p1 then 0 else c1) (w2 : W2 = if p2 then 0 else c2) : (if W0 = 0 then (if W1 = 0 then (if p2 then no9 else if c2 = 0 then no9 else F 2) else (if p1 then no9 else if c1 = 0 then no9 else F 1)) else (if p0 then no9 else if c0 = 0 then no9 else F 0)) = if W0 + W1 + W2 = 0 then no9 else F (if W0 ≠ 0 then 0 else if W1 ≠ 0 then 1 else 2) := by
  subst w0 w1 w2
  by_cases h0 : p0 <;> by_cases h1 : p1 <;> by_cases h2 : p2 <;> by_cases z0 : c0 = 0 <;> by_cases z1 : c1 = 0 <;> by_cases z2 : c2 = 0 <;> simp [h0, h1, h2, z0, z1, z2]
theorem rows_fst (pe : Nat → Int32) (g : Nat) : ∀ r k s v, fsC (fun i => wkB pe g i r k s) (fun i => nI (dvN i r v)) (3 ^ r) = if cwN pe g r k s = 0 then no9 else nI (frN pe g r k s v)
  | 0, k, s, v => by
    show (if decide (s = g) = true ∧ 0 = 0 then nI v else no9) = if (if s = g then 1 else 0) = 0 then no9 else nI v
    by_cases h : s = g <;> simp [h]
  | r + 1, k, s, v => by
    have ih := fun s v => rows_fst pe g r (k + 1) s v
    have ic := fun s => rows_cnt pe g r (k + 1) s
    have b0 := wkB_blk (pe := pe) (g := g) (r := r) (k := k) (s := s) (a := 0) (by decide)
    have b1 := wkB_blk (pe := pe) (g := g) (r := r) (k := k) (s := s) (a := 1) (by decide)
    have c0 := fsC_blk (pe := pe) (g := g) (r := r) (k := k) (s := s) (a := 0) (v := v) (by decide)
    have c1 := fsC_blk (pe := pe) (g := g) (r := r) (k := k) (s := s) (a := 1) (v := v) (by decide)
    have c2 := fsC_blk (pe := pe) (g := g) (r := r) (k := k) (s := s) (a := 2) (v := v) (by decide)
    have hs : cwN pe g (r + 1) k s = wbN pe (cwN pe g r (k + 1)) k (stN s 0) + wbN pe (cwN pe g r (k + 1)) k (stN s 1) + wbN pe (cwN pe g r (k + 1)) k (stN s 2) := rfl
    have hf : frN pe g (r + 1) k s v = frN pe g r (k + 1) (stN s (fwN pe (cwN pe g r (k + 1)) k s)) (10 * v + fwN pe (cwN pe g r (k + 1)) k s) := rfl
    rw [ic] at b0 b1
    rw [ih] at c0 c1 c2
    rw [three, fsC_add, fsC_add]
    rw [show (fun i => wkB pe g (0 * 3 ^ r + i) (r + 1) k s) = fun i => wkB pe g i (r + 1) k s by funext i; rw [Nat.zero_mul, Nat.zero_add]] at b0 c0
    rw [show (fun i => nI (dvN (0 * 3 ^ r + i) (r + 1) v)) = fun i => nI (dvN i (r + 1) v) by funext i; rw [Nat.zero_mul, Nat.zero_add]] at c0
    rw [show (fun i => wkB pe g (1 * 3 ^ r + i) (r + 1) k s) = fun i => wkB pe g (3 ^ r + i) (r + 1) k s by funext i; rw [Nat.one_mul]] at b1 c1
    rw [show (fun i => nI (dvN (1 * 3 ^ r + i) (r + 1) v)) = fun i => nI (dvN (3 ^ r + i) (r + 1) v) by funext i; rw [Nat.one_mul]] at c1
    rw [show (fun i => wkB pe g (2 * 3 ^ r + i) (r + 1) k s) = fun i => wkB pe g (3 ^ r + (3 ^ r + i)) (r + 1) k s by funext i; rw [show 2 * 3 ^ r + i = 3 ^ r + (3 ^ r + i) by omega]] at c2
    rw [show (fun i => nI (dvN (2 * 3 ^ r + i) (r + 1) v)) = fun i => nI (dvN (3 ^ r + (3 ^ r + i)) (r + 1) v) by funext i; rw [show 2 * 3 ^ r + i = 3 ^ r + (3 ^ r + i) by omega]] at c2
    rw [b0, b1, c0, c1, c2, hf, hs]
    unfold fwN
    have w0 : wbN pe (cwN pe g r (k + 1)) k (stN s 0) = if nI (stN s 0) = pe k then 0 else cwN pe g r (k + 1) (stN s 0) := rfl
    have w1 : wbN pe (cwN pe g r (k + 1)) k (stN s 1) = if nI (stN s 1) = pe k then 0 else cwN pe g r (k + 1) (stN s 1) := rfl
    have w2 : wbN pe (cwN pe g r (k + 1)) k (stN s 2) = if nI (stN s 2) = pe k then 0 else cwN pe g r (k + 1) (stN s 2) := rfl
    rw [← w0, ← w1]
    exact fst_key _ _ _ _ _ _ _ _ _ (fun a => nI (frN pe g r (k + 1) (stN s a) (10 * v + a))) w0 w1 w2
