/-! who walked whom: all rows of companies -/
theorem sumF_congr {f g : Nat → Nat} : ∀ n, (∀ i, i < n → f i = g i) → sumF f n = sumF g n
  | 0, _ => rfl
  | n + 1, h => by
    show sumF f n + f n = sumF g n + g n
    rw [sumF_congr n (fun i hi => h i (by omega)), h n (by omega)]
theorem sumF_add (f g : Nat → Nat) : ∀ n, sumF (fun i => f i + g i) n = sumF f n + sumF g n
  | 0 => rfl
  | n + 1 => by
    show sumF (fun i => f i + g i) n + (f n + g n) = (sumF f n + f n) + (sumF g n + g n)
    rw [sumF_add f g n]
    omega
theorem sumF_zero : ∀ n, sumF (fun _ => 0) n = 0
  | 0 => rfl
  | n + 1 => by
    show sumF (fun _ => 0) n + 0 = 0
    rw [sumF_zero n]
theorem cnt_sum (f : Nat → Bool) : ∀ n, cntC f n = sumF (fun i => if f i = true then 1 else 0) n
  | 0 => rfl
  | n + 1 => by
    show cntC f n + _ = sumF _ n + _
    rw [cnt_sum f n]
theorem cnt_mul (f : Nat → Bool) (b : Nat) : ∀ N, cntC f (b * N) = sumF (fun c => cntC (fun q => f (c + b * q)) N) b
  | 0 => by
    rw [Nat.mul_zero]
    exact (sumF_zero b).symm
  | N + 1 => by
    rw [Nat.mul_succ, cntC_add, cnt_mul f b N, cnt_sum, ← sumF_add]
    refine sumF_congr b (fun c _ => ?_)
    show _ = cntC (fun q => f (c + b * q)) N + (if f (c + b * N) = true then 1 else 0)
    rw [Nat.add_comm (b * N) c]
/-- a company as a bit of what a man may -/
def cc (D c : Nat) : Nat := if c = D then 4 else c
/-- whether the men from j on, n of them, can be shared out by a row -/
def okS (may : Nat → Nat) (D : Nat) : Nat → Nat → (Nat → Nat) → Nat → Bool
  | 0, _, _, _ => true
  | n + 1, j, room, row => if row % (D + 1) = D then (may j).testBit 4 && okS may D n (j + 1) room (row / (D + 1)) else (may j).testBit (row % (D + 1)) && (decide (0 < room (row % (D + 1))) && okS may D n (j + 1) (less room (row % (D + 1))) (row / (D + 1)))
theorem okS_cnt (may : Nat → Nat) (D : Nat) : ∀ n j room, cntC (okS may D n j room) ((D + 1) ^ n) = shN may D n j room
  | 0, _, _ => rfl
  | n + 1, j, room => by
    have ih := okS_cnt may D n (j + 1)
    rw [Nat.pow_succ, Nat.mul_comm, cnt_mul]
    have e : ∀ c q, c < D + 1 → (c + (D + 1) * q) % (D + 1) = c ∧ (c + (D + 1) * q) / (D + 1) = q := fun c q hc => by
      rw [Nat.add_mul_mod_self_left, Nat.mod_eq_of_lt hc, Nat.add_mul_div_left _ _ (by omega), Nat.div_eq_of_lt hc, Nat.zero_add]
      exact ⟨rfl, rfl⟩
    show sumF _ D + cntC (fun q => okS may D (n + 1) j room (D + (D + 1) * q)) ((D + 1) ^ n) = (if (may j).testBit 4 = true then shN may D n (j + 1) room else 0) + sumF _ D
    rw [Nat.add_comm]
    congr 1
    · by_cases h : (may j).testBit 4 = true
      · rw [if_pos h, ← ih]
        refine cntC_congr _ (fun q _ => ?_)
        show (if (D + (D + 1) * q) % (D + 1) = D then _ else _) = _
        rw [(e D q (by omega)).1, (e D q (by omega)).2, if_pos rfl, h]
        rfl
      · rw [if_neg h]
        refine cntC_none _ (fun q _ => ?_)
        show (if (D + (D + 1) * q) % (D + 1) = D then _ else _) = _
        rw [(e D q (by omega)).1, if_pos rfl]
        simp [h]
    · refine sumF_congr D (fun d hd => ?_)
      by_cases h : (may j).testBit d = true ∧ 0 < room d
      · rw [if_pos h, ← ih]
        refine cntC_congr _ (fun q _ => ?_)
        show (if (d + (D + 1) * q) % (D + 1) = D then _ else _) = _
        rw [(e d q (by omega)).1, (e d q (by omega)).2, if_neg (by omega), h.1, decide_eq_true h.2]
        rfl
      · rw [if_neg h]
        refine cntC_none _ (fun q _ => ?_)
        show (if (d + (D + 1) * q) % (D + 1) = D then _ else _) = _
        rw [(e d q (by omega)).1, if_neg (by omega)]
        cases e1 : (may j).testBit d with
        | false => rfl
        | true =>
          rw [decide_eq_false (fun q => h ⟨e1, q⟩)]
          rfl
/-- the company of a man in a row -/
def cpD (D row m : Nat) : Nat := row / (D + 1) ^ m % (D + 1)
theorem cpD_s {D row m : Nat} : cpD D row (m + 1) = cpD D (row / (D + 1)) m := by
  unfold cpD
  rw [Nat.pow_succ, Nat.mul_comm, ← Nat.div_div_eq_div_mul]
theorem cpD_0 {D row : Nat} : cpD D row 0 = row % (D + 1) := by
  unfold cpD
  rw [Nat.pow_zero, Nat.div_one]
theorem cpD_lt {D row m : Nat} : cpD D row m ≤ D := Nat.le_of_lt_succ (Nat.mod_lt _ (by omega))
def cqB (D row d m : Nat) : Bool := decide (cpD D row m = d)
theorem cq_s {D row d : Nat} (n : Nat) : cntC (cqB D row d) (n + 1) = (if row % (D + 1) = d then 1 else 0) + cntC (cqB D (row / (D + 1)) d) n := by
  rw [Nat.add_comm n 1, cntC_add]
  congr 1
  · show 0 + (if decide (cpD D row 0 = d) = true then 1 else 0) = _
    rw [cpD_0]
    by_cases h : row % (D + 1) = d <;> simp [h]
  · refine cntC_congr n (fun i _ => ?_)
    unfold cqB
    rw [Nat.add_comm 1 i, cpD_s]
theorem okS_iff (may : Nat → Nat) (D : Nat) : ∀ n j room row, okS may D n j room row = true ↔ (∀ i, i < n → (may (j + i)).testBit (cc D (cpD D row i)) = true) ∧ ∀ d, d < D → cntC (cqB D row d) n ≤ room d
  | 0, _, _, _ => ⟨fun _ => ⟨fun i hi => absurd hi (Nat.not_lt_zero _), fun _ _ => Nat.zero_le _⟩, fun _ => rfl⟩
  | n + 1, j, room, row => by
    have hlt : row % (D + 1) ≤ D := Nat.le_of_lt_succ (Nat.mod_lt _ (by omega))
    have hsplit : (∀ i, i < n + 1 → (may (j + i)).testBit (cc D (cpD D row i)) = true) ↔ (may j).testBit (cc D (row % (D + 1))) = true ∧ ∀ i, i < n → (may (j + 1 + i)).testBit (cc D (cpD D (row / (D + 1)) i)) = true := by
      constructor
      · intro h
        refine ⟨?_, fun i hi => ?_⟩
        · have := h 0 (by omega)
          rwa [cpD_0] at this
        · have := h (i + 1) (by omega)
          rwa [cpD_s, show j + (i + 1) = j + 1 + i by omega] at this
      · rintro ⟨h1, h2⟩ i hi
        cases i with
        | zero => rw [cpD_0]; exact h1
        | succ i => rw [cpD_s, show j + (i + 1) = j + 1 + i by omega]; exact h2 i (by omega)
    rw [hsplit]
    show (if row % (D + 1) = D then _ else _) = true ↔ _
    by_cases h : row % (D + 1) = D
    · rw [if_pos h, Bool.and_eq_true, okS_iff may D n (j + 1) room (row / (D + 1))]
      unfold cc
      rw [if_pos h]
      constructor
      · rintro ⟨h1, h2, h3⟩
        refine ⟨⟨h1, h2⟩, fun d hd => ?_⟩
        rw [cq_s, if_neg (by omega), Nat.zero_add]
        exact h3 d hd
      · rintro ⟨⟨h1, h2⟩, h3⟩
        refine ⟨h1, h2, fun d hd => ?_⟩
        have := h3 d hd
        rwa [cq_s, if_neg (by omega), Nat.zero_add] at this
    · rw [if_neg h, Bool.and_eq_true, Bool.and_eq_true, decide_eq_true_eq, okS_iff may D n (j + 1) _ (row / (D + 1))]
      rw [show cc D (row % (D + 1)) = row % (D + 1) from if_neg h]
      constructor
      · rintro ⟨h1, h0, h2, h3⟩
        refine ⟨⟨h1, h2⟩, fun d hd => ?_⟩
        have := h3 d hd
        rw [cq_s]
        unfold less at this
        by_cases e : d = row % (D + 1)
        · rw [if_pos e] at this
          rw [if_pos e.symm]
          rw [← e] at h0
          omega
        · rw [if_neg e] at this
          rw [if_neg (fun q => e q.symm), Nat.zero_add]
          exact this
      · rintro ⟨⟨h1, h2⟩, h3⟩
        have h0 := h3 (row % (D + 1)) (by omega)
        rw [cq_s, if_pos rfl] at h0
        refine ⟨h1, by omega, h2, fun d hd => ?_⟩
        have := h3 d hd
        rw [cq_s] at this
        unfold less
        by_cases e : d = row % (D + 1)
        · rw [if_pos e]
          rw [if_pos e.symm] at this
          omega
        · rw [if_neg e]
          rw [if_neg (fun q => e q.symm), Nat.zero_add] at this
          exact this
def bad1 (s : Sv) (row d : Nat) : Bool := decide (rmN s.Λ d < cntC (cqB (lD s.Λ) row d) (lM s.Λ))
def bad2 (s : Sv) (row k : Nat) : Bool := decide (s.σ.2.1 k < lM s.Λ) && !decide (swN s.Λ s.P (s.σ.2.1 k) (cpD (lD s.Λ) row (s.σ.2.1 k)) (s.σ.2.2.2 k) = s.σ.2.2.1 k)
/-- a row that can be -/
def isW (s : Sv) (row : Nat) : Bool := !anyN (lD s.Λ) (bad1 s row) && !anyN s.σ.1 (bad2 s row)
theorem anyN_iff {n : Nat} {f : Nat → Bool} : anyN n f = false ↔ ∀ m, m < n → f m = false := by
  constructor
  · intro h m hm
    cases e : f m with
    | false => rfl
    | true => rw [anyN_t hm e] at h; cases h
  · exact anyN_f
theorem mayN_bit (Λ : Lw) (P : Pg) (σ : Sg) (m : Nat) : ∀ n, n ≤ 4 → ∀ e, (mayN Λ P σ m n).testBit e = ((decide (e = 4) && fitB Λ P σ m 4) || (decide (e < n) && fitB Λ P σ m e))
  | 0, _, e => by
    show (if fitB Λ P σ m 4 = true then 16 else 0 : Nat).testBit e = _
    cases h : fitB Λ P σ m 4 with
    | false => simp
    | true =>
      rw [if_pos rfl, show (16 : Nat) = 2 ^ 4 from rfl, Nat.testBit_two_pow]
      by_cases q : e = 4
      · subst q; simp
      · simp [q, show ¬ 4 = e by omega]
  | n + 1, hn, e => by
    show (mayN Λ P σ m n ||| (if fitB Λ P σ m n = true then 2 ^ n else 0)).testBit e = _
    rw [Nat.testBit_or, mayN_bit Λ P σ m n (by omega) e]
    by_cases q : e = n
    · subst q
      rw [decide_eq_false (show ¬ e = 4 by omega), decide_eq_false (Nat.lt_irrefl e), decide_eq_true (Nat.lt_succ_self e)]
      cases h : fitB Λ P σ m e with
      | false => simp
      | true => rw [if_pos rfl, Nat.testBit_two_pow]; simp
    · have e1 : (if fitB Λ P σ m n = true then 2 ^ n else 0 : Nat).testBit e = false := by
        split
        · rw [Nat.testBit_two_pow]; exact decide_eq_false (fun w => q w.symm)
        · exact Nat.zero_testBit e
      rw [e1, Bool.or_false]
      by_cases w : e < n
      · rw [decide_eq_true w, decide_eq_true (show e < n + 1 by omega)]
      · rw [decide_eq_false w, decide_eq_false (show ¬ e < n + 1 by omega)]
theorem fit_cc {Λ : Lw} {P : Pg} {σ : Sg} {m c : Nat} (hD : lD Λ ≤ 4) (hc : c ≤ lD Λ) : (mayN Λ P σ m (lD Λ)).testBit (cc (lD Λ) c) = fitB Λ P σ m c := by
  rw [mayN_bit Λ P σ m (lD Λ) hD]
  unfold cc
  by_cases h : c = lD Λ
  · rw [if_pos h, decide_eq_true rfl, decide_eq_false (show ¬ 4 < lD Λ by omega)]
    have : fitB Λ P σ m 4 = fitB Λ P σ m c := by
      unfold fitB
      have e : badB Λ P σ m 4 = badB Λ P σ m c := by
        funext i
        unfold badB
        have : swN Λ P m 4 (σ.2.2.2 i) = swN Λ P m c (σ.2.2.2 i) := by
          unfold swN
          rw [if_neg (by omega), if_neg (by omega)]
        rw [this]
      rw [e]
    rw [this]
    simp
  · rw [if_neg h, decide_eq_false (show ¬ c = 4 by omega), decide_eq_true (show c < lD Λ by omega)]
    simp
theorem isW_okS {s : Sv} {B : Nat} (V : OkV B s) (row : Nat) : isW s row = okS (mySh s) (lD s.Λ) (lM s.Λ) 0 (rmN s.Λ) row := by
  have hD := V.l.1
  have h1 : isW s row = true ↔ (∀ d, d < lD s.Λ → bad1 s row d = false) ∧ ∀ k, k < s.σ.1 → bad2 s row k = false := by
    unfold isW
    rw [Bool.and_eq_true, Bool.not_eq_true', Bool.not_eq_true', anyN_iff, anyN_iff]
  have h2 := okS_iff (mySh s) (lD s.Λ) (lM s.Λ) 0 (rmN s.Λ) row
  have key : isW s row = true ↔ okS (mySh s) (lD s.Λ) (lM s.Λ) 0 (rmN s.Λ) row = true := by
    rw [h1, h2]
    constructor
    · rintro ⟨g1, g2⟩
      refine ⟨fun i hi => ?_, fun d hd => ?_⟩
      · rw [Nat.zero_add]
        unfold mySh
        rw [fit_cc hD cpD_lt]
        unfold fitB
        rw [anyN_f (fun k hk => ?_)]
        · rfl
        · unfold badB
          have := g2 k hk
          unfold bad2 at this
          by_cases e : s.σ.2.1 k = i
          · subst e
            rw [decide_eq_true hi] at this
            have : swN s.Λ s.P (s.σ.2.1 k) (cpD (lD s.Λ) row (s.σ.2.1 k)) (s.σ.2.2.2 k) = s.σ.2.2.1 k := by simpa using this
            rw [this]
            simp
          · rw [decide_eq_false e]; rfl
      · have := g1 d hd
        unfold bad1 at this
        have := of_decide_eq_false this
        omega
    · rintro ⟨g1, g2⟩
      refine ⟨fun d hd => ?_, fun k hk => ?_⟩
      · unfold bad1
        exact decide_eq_false (by have := g2 d hd; omega)
      · unfold bad2
        by_cases e : s.σ.2.1 k < lM s.Λ
        · have := g1 _ e
          rw [Nat.zero_add] at this
          unfold mySh at this
          rw [fit_cc hD cpD_lt] at this
          unfold fitB at this
          have := (anyN_iff.mp (by simpa using this)) k hk
          unfold badB at this
          rw [decide_eq_true rfl, Bool.true_and] at this
          have : s.σ.2.2.1 k = swN s.Λ s.P (s.σ.2.1 k) (cpD (lD s.Λ) row (s.σ.2.1 k)) (s.σ.2.2.2 k) := by simpa using this
          rw [decide_eq_true this.symm]
          simp
        · rw [decide_eq_false e]; rfl
  cases e1 : isW s row <;> cases e2 : okS (mySh s) (lD s.Λ) (lM s.Λ) 0 (rmN s.Λ) row <;> simp_all
theorem walks_eq {s : Sv} {B : Nat} (V : OkV B s) : nI (cntC (isW s) ((lD s.Λ + 1) ^ lM s.Λ)) = oWalks s := by
  unfold oWalks
  rw [← okS_cnt, cntC_congr _ (fun row _ => isW_okS V row)]
theorem cnt_pos {f : Nat → Bool} : ∀ n, 0 < cntC f n ↔ ∃ k, k < n ∧ f k = true
  | 0 => ⟨fun h => absurd h (Nat.not_lt_zero _), fun ⟨k, hk, _⟩ => absurd hk (Nat.not_lt_zero _)⟩
  | n + 1 => by
    have ih := cnt_pos (f := f) n
    have e : cntC f (n + 1) = cntC f n + (if f n = true then 1 else 0) := rfl
    constructor
    · intro h
      by_cases q : f n = true
      · exact ⟨n, Nat.lt_succ_self n, q⟩
      · rw [e, if_neg q] at h
        obtain ⟨k, hk, w⟩ := ih.mp h
        exact ⟨k, by omega, w⟩
    · rintro ⟨k, hk, w⟩
      by_cases q : k = n
      · subst q; rw [e, if_pos w]; omega
      · have := ih.mpr ⟨k, by omega, w⟩
        omega
theorem okC_iff {s : Sv} {B m c : Nat} (V : OkV B s) (hm : m < lM s.Λ) : okC (mySh s) (lD s.Λ) (lM s.Λ) m (rmN s.Λ) c = true ↔ ∃ row, row < (lD s.Λ + 1) ^ lM s.Λ ∧ isW s row = true ∧ cc (lD s.Λ) (cpD (lD s.Λ) row m) = c := by
  have hb : ∀ e j, (onlyM (mySh s) m c j).testBit e = ((mySh s j).testBit e && (decide (j = m → e = c))) := fun e j => by
    unfold onlyM
    by_cases h : j = m
    · subst h
      rw [if_pos rfl, Nat.testBit_and, Nat.testBit_two_pow]
      by_cases q : c = e <;> simp [q, eq_comm]
    · rw [if_neg h]
      simp [h]
  have hx : ∀ row, okS (onlyM (mySh s) m c) (lD s.Λ) (lM s.Λ) 0 (rmN s.Λ) row = true ↔ isW s row = true ∧ cc (lD s.Λ) (cpD (lD s.Λ) row m) = c := fun row => by
    rw [isW_okS V, okS_iff, okS_iff]
    constructor
    · rintro ⟨h1, h2⟩
      refine ⟨⟨fun i hi => ?_, h2⟩, ?_⟩
      · have := h1 i hi
        rw [hb, Bool.and_eq_true] at this
        exact this.1
      · have := h1 m hm
        rw [hb, Bool.and_eq_true, decide_eq_true_eq, Nat.zero_add] at this
        exact this.2 rfl
    · rintro ⟨⟨h1, h2⟩, h3⟩
      refine ⟨fun i hi => ?_, h2⟩
      rw [hb, h1 i hi, Bool.true_and, decide_eq_true_eq]
      intro e
      rw [Nat.zero_add] at e
      subst e
      exact h3
  unfold okC
  rw [Bool.and_eq_true, decide_eq_true_eq, decide_eq_true_eq, ← okS_cnt, cnt_pos]
  constructor
  · rintro ⟨_, row, h1, h2⟩
    exact ⟨row, h1, (hx row).mp h2⟩
  · rintro ⟨row, h1, h2⟩
    refine ⟨fun q => ?_, row, h1, (hx row).mpr h2⟩
    have h3 := ((okS_iff _ _ _ _ _ _).mp ((hx row).mpr h2)).1 m hm
    rw [Nat.zero_add, show onlyM (mySh s) m c m = mySh s m &&& 2 ^ c from if_pos rfl, q, Nat.zero_testBit] at h3
    cases h3
/-- what is told of a man's companies, row by row -/
def wiC (f : Nat → Bool) (v : Nat → Int32) (z : Int32) : Nat → Int32
  | 0 => z
  | k + 1 => if f k = true then (if cntC f k = 0 ∨ wiC f v z k = v k then v k else no9) else wiC f v z k
theorem wiC_all {f : Nat → Bool} {v : Nat → Int32} {z a : Int32} : ∀ n, 0 < cntC f n → (∀ k, k < n → f k = true → v k = a) → wiC f v z n = a
  | 0, h, _ => absurd h (Nat.not_lt_zero _)
  | n + 1, h, h2 => by
    have e : cntC f (n + 1) = cntC f n + (if f n = true then 1 else 0) := rfl
    show (if f n = true then (if cntC f n = 0 ∨ wiC f v z n = v n then v n else no9) else wiC f v z n) = a
    by_cases q : f n = true
    · rw [if_pos q]
      have hv := h2 n (Nat.lt_succ_self n) q
      by_cases w : cntC f n = 0
      · rw [if_pos (Or.inl w), hv]
      · rw [if_pos (Or.inr ((wiC_all n (by omega) (fun k hk => h2 k (by omega))).trans hv.symm)), hv]
    · rw [if_neg q]
      rw [e, if_neg q] at h
      exact wiC_all n h (fun k hk => h2 k (by omega))
theorem wiC_two {f : Nat → Bool} {v : Nat → Int32} {z : Int32} (hv : ∀ k, v k ≠ no9) : ∀ n i j, i < n → j < n → f i = true → f j = true → v i ≠ v j → wiC f v z n = no9
  | 0, i, _, hi, _, _, _, _ => absurd hi (Nat.not_lt_zero _)
  | n + 1, i, j, hi, hj, fi, fj, hne => by
    have hw := fun (i j : Nat) hi hj fi fj hne => wiC_two (f := f) (v := v) (z := z) hv n i j hi hj fi fj hne
    show (if f n = true then (if cntC f n = 0 ∨ wiC f v z n = v n then v n else no9) else wiC f v z n) = no9
    by_cases q : f n = true
    · rw [if_pos q]
      have hc : ∀ k, k < n → f k = true → ¬ cntC f n = 0 := fun k hk hf h0 => by
        have := (cnt_pos n).mpr ⟨k, hk, hf⟩
        omega
      by_cases hall : ∃ k, k < n ∧ f k = true ∧ v k ≠ v n
      · obtain ⟨k, hk, hf, hkn⟩ := hall
        by_cases htwo : ∃ k', k' < n ∧ f k' = true ∧ v k' ≠ v k
        · obtain ⟨k', hk', hf', hkk⟩ := htwo
          have := hw k' k hk' hk hf' hf hkk
          rw [this, if_neg]
          rintro (w | w)
          · exact hc k hk hf w
          · exact hv n w.symm
        · have : wiC f v z n = v k := wiC_all n ((cnt_pos n).mpr ⟨k, hk, hf⟩) (fun k' hk' hf' => Classical.byContradiction (fun w => htwo ⟨k', hk', hf', w⟩))
          rw [this, if_neg]
          rintro (w | w)
          · exact hc k hk hf w
          · exact hkn w
      · exfalso
        have he : ∀ k, k < n + 1 → f k = true → v k = v n := fun k hk hf => by
          by_cases e : k = n
          · rw [e]
          · exact Classical.byContradiction (fun w => hall ⟨k, by omega, hf, w⟩)
        exact hne ((he i hi fi).trans (he j hj fj).symm)
    · rw [if_neg q]
      have ni : i ≠ n := fun e => q (by rw [← e]; exact fi)
      have nj : j ≠ n := fun e => q (by rw [← e]; exact fj)
      exact hw i j (by omega) (by omega) fi fj hne
def asV (D row m : Nat) : Int32 := if cpD D row m = D then nI 9 else nI (cpD D row m)
theorem asV_cc {D row m : Nat} (hD : D ≤ 4) : asV D row m = codeC (cc D (cpD D row m)) := by
  have h := cpD_lt (D := D) (row := row) (m := m)
  unfold asV codeC cc
  by_cases e : cpD D row m = D
  · rw [if_pos e, if_pos e]; rfl
  · rw [if_neg e, if_neg e, if_neg (by omega), if_neg (by omega)]
theorem code_inj : ∀ a, a < 5 → ∀ b, b < 5 → codeC a = codeC b → a = b := by decide
theorem asV_n9 {D row m : Nat} (hD : D ≤ 4) : asV D row m ≠ no9 := by
  have h := cpD_lt (D := D) (row := row) (m := m)
  unfold asV
  split
  · decide
  · exact nI_n9 (by omega)
theorem lastC_at {f : Nat → Bool} : ∀ n, n ≤ 5 → ∀ c, c < n → f c = true → cntC f n = 1 → lastC f n = c
  | 0, _, c, hc, _, _ => absurd hc (Nat.not_lt_zero _)
  | n + 1, hn, c, hc, hf, h1 => by
    have h1 : cntC f n + (if f n = true then 1 else 0) = 1 := h1
    show (if f n = true then n else lastC f n) = c
    by_cases e : c = n
    · subst e; rw [if_pos hf]
    · have hp := (cnt_pos n).mpr ⟨c, by omega, hf⟩
      by_cases q : f n = true
      · rw [if_pos q] at h1; omega
      · rw [if_neg q]
        rw [if_neg q] at h1
        exact lastC_at n (by omega) c (by omega) hf h1
theorem cnt_one {f : Nat → Bool} {c : Nat} : ∀ n, c < n → f c = true → (∀ k, k < n → f k = true → k = c) → cntC f n = 1
  | 0, hc, _, _ => absurd hc (Nat.not_lt_zero _)
  | n + 1, hc, hf, h => by
    show cntC f n + (if f n = true then 1 else 0) = 1
    by_cases e : c = n
    · subst e
      rw [if_pos hf, cntC_none c (fun k hk => ?_)]
      cases q : f k with
      | false => rfl
      | true => exact absurd (h k (by omega) q) (by omega)
    · rw [if_neg (fun q => e (h n (Nat.lt_succ_self n) q).symm), cnt_one n (by omega) hf (fun k hk => h k (by omega))]
theorem sure_eq {s : Sv} {B m : Nat} (V : OkV B s) (hm : m < lM s.Λ) (z : Int32) : (if cntC (isW s) ((lD s.Λ + 1) ^ lM s.Λ) = 0 then no9 else wiC (isW s) (fun row => asV (lD s.Λ) row m) z ((lD s.Λ + 1) ^ lM s.Λ)) = (if cntC (okC (mySh s) (lD s.Λ) (lM s.Λ) m (rmN s.Λ)) 5 = 1 then codeC (lastC (okC (mySh s) (lD s.Λ) (lM s.Λ) m (rmN s.Λ)) 5) else no9) := by
  have hD := V.l.1
  have hc := fun c => okC_iff (c := c) V hm
  have cl : ∀ row, cc (lD s.Λ) (cpD (lD s.Λ) row m) < 5 := fun row => by
    have := cpD_lt (D := lD s.Λ) (row := row) (m := m)
    unfold cc
    split <;> omega
  generalize okC (mySh s) (lD s.Λ) (lM s.Λ) m (rmN s.Λ) = f at hc ⊢
  by_cases h0 : cntC (isW s) ((lD s.Λ + 1) ^ lM s.Λ) = 0
  · rw [if_pos h0, cntC_none 5 (fun c _ => ?_)]
    · rfl
    · cases q : f c with
      | false => rfl
      | true =>
        obtain ⟨row, h1, h2, _⟩ := (hc c).mp q
        have := (cnt_pos _).mpr ⟨row, h1, h2⟩
        omega
  · rw [if_neg h0]
    obtain ⟨row, r1, r2⟩ := (cnt_pos _).mp (Nat.pos_of_ne_zero h0)
    have hf := (hc _).mpr ⟨row, r1, r2, rfl⟩
    by_cases hall : ∀ r, r < (lD s.Λ + 1) ^ lM s.Λ → isW s r = true → cc (lD s.Λ) (cpD (lD s.Λ) r m) = cc (lD s.Λ) (cpD (lD s.Λ) row m)
    · have h1 : cntC f 5 = 1 := cnt_one 5 (cl row) hf (fun k _ hk => by
        obtain ⟨r, q1, q2, q3⟩ := (hc k).mp hk
        rw [← q3]
        exact hall r q1 q2)
      rw [if_pos h1, lastC_at 5 (by omega) _ (cl row) hf h1, ← asV_cc hD]
      exact wiC_all _ (Nat.pos_of_ne_zero h0) (fun k hk hk2 => by
        show asV (lD s.Λ) k m = _
        rw [asV_cc hD, asV_cc hD, hall k hk hk2])
    · obtain ⟨r, hr⟩ := Classical.not_forall.mp hall
      obtain ⟨q1, hr⟩ := Classical.not_imp.mp hr
      obtain ⟨q2, q3⟩ := Classical.not_imp.mp hr
      rw [wiC_two (fun k => asV_n9 hD) _ r row q1 r1 q2 r2 (fun w => q3 ?_)]
      · have hf2 := (hc _).mpr ⟨r, q1, q2, rfl⟩
        rw [if_neg]
        intro h1
        have e1 := lastC_at 5 (by omega) _ (cl row) hf h1
        have e2 := lastC_at 5 (by omega) _ (cl r) hf2 h1
        exact q3 (e2.symm.trans e1)
      · have w : asV (lD s.Λ) r m = asV (lD s.Λ) row m := w
        rw [asV_cc hD, asV_cc hD] at w
        exact code_inj _ (cl r) _ (cl row) w
