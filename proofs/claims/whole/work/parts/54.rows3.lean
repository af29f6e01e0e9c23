/-! the fewest hours in which a dog is on every street -/
def soK (f n row : Nat) : Nat → Nat
  | 0 => 2 ^ f
  | k + 1 => soK f n row k ||| 2 ^ stK f n row (k + 1)
theorem soN_K {row f n : Nat} : ∀ r, r ≤ n → soN row r (stK f n row (n - r)) (soK f n row (n - r)) = soK f n row n
  | 0, _ => rfl
  | r + 1, hr => by
    have ih := soN_K (row := row) (f := f) (n := n) r (by omega)
    have e : n - (r + 1) + 1 = n - r := by omega
    have es : stK f n row (n - r) = stN (stK f n row (n - (r + 1))) (row / 3 ^ r % 3) := by
      rw [← e]
      show stN _ (row / 3 ^ (n - 1 - (n - (r + 1))) % 3) = _
      rw [show n - 1 - (n - (r + 1)) = r by omega]
    have eS : soK f n row (n - r) = soK f n row (n - (r + 1)) ||| 2 ^ stK f n row (n - r) := by
      rw [← e]
      rfl
    show soN row r (stN (stK f n row (n - (r + 1))) (row / 3 ^ r % 3)) (soK f n row (n - (r + 1)) ||| 2 ^ stN (stK f n row (n - (r + 1))) (row / 3 ^ r % 3)) = _
    rw [← es, ← eS]
    exact ih
theorem soK_lt {f n row : Nat} (hf : f < 5) : ∀ k, soK f n row k < 32
  | 0 => Nat.pow_lt_pow_right (by decide) hf
  | k + 1 => Nat.or_lt_two_pow (n := 5) (soK_lt hf k) (Nat.pow_lt_pow_right (by decide) (stK_lt hf (k + 1)))
theorem soK_bit {f n row i : Nat} : ∀ k, (soK f n row k).testBit i = true → ∃ j, j ≤ k ∧ stK f n row j = i
  | 0, h => ⟨0, Nat.le_refl _, by
    have h : (2 ^ f).testBit i = true := h
    rw [Nat.testBit_two_pow] at h
    exact of_decide_eq_true h⟩
  | k + 1, h => by
    have h : (soK f n row k ||| 2 ^ stK f n row (k + 1)).testBit i = true := h
    rw [Nat.testBit_or, Bool.or_eq_true] at h
    rcases h with h | h
    · obtain ⟨j, hj, e⟩ := soK_bit k h
      exact ⟨j, by omega, e⟩
    · rw [Nat.testBit_two_pow] at h
      exact ⟨k + 1, Nat.le_refl _, of_decide_eq_true h⟩
theorem dig_up {n row w j : Nat} (hw : w < 3) (hj : j < n) : (3 * row + w) / 3 ^ (n + 1 - 1 - j) % 3 = row / 3 ^ (n - 1 - j) % 3 := by
  obtain ⟨q, hq⟩ : ∃ q, n - 1 - j = q := ⟨_, rfl⟩
  rw [hq, show n + 1 - 1 - j = q + 1 by omega, Nat.pow_succ, Nat.mul_comm (3 ^ q) 3, ← Nat.div_div_eq_div_mul, show (3 * row + w) / 3 = row by omega]
theorem stK_up {f n row w : Nat} (hw : w < 3) : ∀ k, k ≤ n → stK f (n + 1) (3 * row + w) k = stK f n row k
  | 0, _ => rfl
  | k + 1, hk => by
    show stN (stK f (n + 1) (3 * row + w) k) ((3 * row + w) / 3 ^ (n + 1 - 1 - k) % 3) = stN (stK f n row k) (row / 3 ^ (n - 1 - k) % 3)
    rw [stK_up hw k (by omega), dig_up hw (by omega)]
theorem soK_up {f n row w : Nat} (hw : w < 3) : ∀ k, k ≤ n → soK f (n + 1) (3 * row + w) k = soK f n row k
  | 0, _ => rfl
  | k + 1, hk => by
    show soK f (n + 1) (3 * row + w) k ||| 2 ^ stK f (n + 1) (3 * row + w) (k + 1) = soK f n row k ||| 2 ^ stK f n row (k + 1)
    rw [soK_up hw k (by omega), stK_up hw (k + 1) hk]
theorem stK_last {f n row w : Nat} (hw : w < 3) : stK f (n + 1) (3 * row + w) (n + 1) = stN (stK f n row n) w := by
  show stN (stK f (n + 1) (3 * row + w) n) ((3 * row + w) / 3 ^ (n + 1 - 1 - n) % 3) = _
  rw [stK_up hw n (Nat.le_refl _), show n + 1 - 1 - n = 0 by omega, Nat.pow_zero, Nat.div_one, show (3 * row + w) % 3 = w by omega]
theorem rch_row {pe : Nat → Int32} {f : Nat} (hf : f < 5) : ∀ n s T, rchP pe f n s T ↔ ∃ row, row < 3 ^ n ∧ (∀ j, j < n → ¬ nI (stK f n row (j + 1)) = pe j) ∧ s = stK f n row n ∧ T = soK f n row n
  | 0, s, T => by
    constructor
    · rintro ⟨h1, h2⟩
      exact ⟨0, by decide, fun j hj => absurd hj (Nat.not_lt_zero _), h1, h2⟩
    · rintro ⟨row, h0, h1, h2, h3⟩
      exact ⟨h2, h3⟩
  | n + 1, s, T => by
    constructor
    · rintro ⟨s0, w, S, h1, hw, hs, hp, hS, hr, hT⟩
      obtain ⟨row, r1, r2, r3, r4⟩ := (rch_row hf n s0 S).mp hr
      refine ⟨3 * row + w, by rw [Nat.pow_succ]; omega, fun j hj => ?_, ?_, ?_⟩
      · by_cases e : j = n
        · subst e
          rw [stK_last hw, ← r3, ← hs]
          exact hp
        · rw [stK_up hw (j + 1) (by omega)]
          exact r2 j (by omega)
      · rw [stK_last hw, ← r3, hs]
      · show T = soK f (n + 1) (3 * row + w) n ||| 2 ^ stK f (n + 1) (3 * row + w) (n + 1)
        rw [soK_up hw n (Nat.le_refl _), stK_last hw, ← r3, ← r4, ← hs]
        exact hT
    · rintro ⟨row, h0, h1, h2, h3⟩
      have hw : row % 3 < 3 := Nat.mod_lt _ (by decide)
      have er : row = 3 * (row / 3) + row % 3 := by omega
      have hq : row / 3 < 3 ^ n := by rw [Nat.pow_succ] at h0; omega
      generalize row / 3 = q at er hq
      generalize row % 3 = w at er hw
      subst er
      refine ⟨stK f n q n, w, soK f n q n, stK_lt hf n, hw, h2.trans (stK_last hw), ?_, soK_lt hf n, (rch_row hf n _ _).mpr ⟨q, hq, fun j hj => ?_, rfl, rfl⟩, ?_⟩
      · rw [h2]; exact h1 n (Nat.lt_succ_self _)
      · have := h1 j (by omega)
        rwa [stK_up hw (j + 1) (by omega)] at this
      · rw [h3, h2]
        show soK f (n + 1) (3 * q + w) n ||| _ = _
        rw [soK_up hw n (Nat.le_refl _)]
/-- a row by which a dog is on every street, alone -/
def arB (Λ : Lw) (P : Pg) (h d n row : Nat) : Bool := decide (soN row n (sN P d) (2 ^ sN P d) = 31) && (gsS Λ P h d n row true n).1
/-- what the reference answers -/
def arR (Λ : Lw) (P : Pg) (h d : Nat) (r : Int32) : Prop := (∃ n, n ≤ 7 ∧ r = nI n ∧ (∃ row, row < 3 ^ n ∧ arB Λ P h d n row = true) ∧ ∀ m, m < n → ∀ row, row < 3 ^ m → arB Λ P h d m row = false) ∨ (r = no9 ∧ ∀ n, n ≤ 7 → ∀ row, row < 3 ^ n → arB Λ P h d n row = false)
theorem arB_rival {Λ : Lw} {P : Pg} {h d n row : Nat} (hL : OkN Λ) (hP : OkP Λ P h) (hd : d < lD Λ) (hr : anyN (lD Λ) (rivB Λ d) = true) (hn : n ≤ 9999) : arB Λ P h d n row = false := by
  cases e : arB Λ P h d n row with
  | false => rfl
  | true =>
    exfalso
    unfold arB at e
    simp only [Bool.and_eq_true, decide_eq_true_eq] at e
    obtain ⟨o, ho, h1⟩ := List.any_eq_true.mp hr
    have ho := List.mem_range.mp ho
    unfold rivB at h1
    simp only [Bool.and_eq_true, decide_eq_true_eq] at h1
    obtain ⟨G, _, w⟩ := gs_fwd hL hP hd n hn e.2
    obtain ⟨so, hs, es⟩ := hP.2.1 o ho
    have hk := soN_K (row := row) (f := sN P d) (n := n) n (Nat.le_refl _)
    rw [Nat.sub_self] at hk
    have hk : soN row n (sN P d) (2 ^ sN P d) = soK (sN P d) n row n := hk
    have hb : (31 : Nat).testBit so = true := by
      have e : ∀ i, i < 5 → (31 : Nat).testBit i = true := by decide
      exact e so hs
    rw [← e.1, hk] at hb
    obtain ⟨j, hj, ej⟩ := soK_bit n hb
    exact w rfl o ho h1.1 h1.2 j hj (by rw [es, ej])
theorem arB_iff {Λ : Lw} {P : Pg} {h d n : Nat} (hL : OkN Λ) (hP : OkP Λ P h) (hd : d < lD Λ) (hr : anyN (lD Λ) (rivB Λ d) = false) (hn : n ≤ 9999) : (∃ row, row < 3 ^ n ∧ arB Λ P h d n row = true) ↔ ∃ s, s < 5 ∧ rchP (perP Λ P d h) (sN P d) n s 31 := by
  have f2 := (sN_dog hP hd).2
  have hk : ∀ row, soN row n (sN P d) (2 ^ sN P d) = soK (sN P d) n row n := fun row => by
    have hk := soN_K (row := row) (f := sN P d) (n := n) n (Nat.le_refl _)
    rw [Nat.sub_self] at hk
    exact hk
  constructor
  · rintro ⟨row, h1, h2⟩
    unfold arB at h2
    simp only [Bool.and_eq_true, decide_eq_true_eq] at h2
    obtain ⟨G, w, _⟩ := gs_fwd hL hP hd n hn h2.2
    exact ⟨stK (sN P d) n row n, stK_lt f2 n, (rch_row f2 n _ _).mpr ⟨row, h1, w, rfl, by rw [← hk, h2.1]⟩⟩
  · rintro ⟨s, h1, h2⟩
    obtain ⟨row, r1, r2, r3, r4⟩ := (rch_row f2 n _ _).mp h2
    refine ⟨row, r1, ?_⟩
    unfold arB
    rw [hk, ← r4, gs_bwd (u := true) hL hP hd (fun _ => hr) n hn r2]
    rfl
theorem rch0 {pe : Nat → Int32} {f s : Nat} (hf : f < 5) : ¬ rchP pe f 0 s 31 := by
  rintro ⟨_, h⟩
  have e : ∀ f, f < 5 → ¬ 31 = 2 ^ f := by decide
  exact e f hf h
theorem aired_eq {s : Sv} {B d : Nat} {r : Int32} (V : OkV B s) (hd : d < lD s.Λ) (h : arR s.Λ s.P s.h d r) : rAiredN s d r := by
  unfold rAiredN
  by_cases hr : anyN (lD s.Λ) (rivB s.Λ d) = true
  · rw [if_pos hr]
    rcases h with ⟨n, _, _, ⟨row, h1, h2⟩, _⟩ | h
    · rw [arB_rival V.l.N V.p hd hr (by omega)] at h2
      cases h2
    · exact h.1
  · rw [if_neg hr]
    have hr : anyN (lD s.Λ) (rivB s.Λ d) = false := by simpa using hr
    have f2 := (sN_dog V.p hd).2
    have q := fun n hn => arB_iff (n := n) V.l.N V.p hd hr hn
    rcases h with ⟨n, h1, h2, h3, h4⟩ | ⟨h1, h2⟩
    · left
      cases n with
      | zero =>
        obtain ⟨s0, _, w⟩ := (q 0 (by omega)).mp h3
        exact absurd w (rch0 f2)
      | succ k =>
        refine ⟨k, by omega, h2, (q (k + 1) (by omega)).mp h3, fun j hj w => ?_⟩
        obtain ⟨row, r1, r2⟩ := (q (j + 1) (by omega)).mpr w
        rw [h4 (j + 1) (by omega) row r1] at r2
        cases r2
    · right
      refine ⟨h1, fun k hk w => ?_⟩
      obtain ⟨row, r1, r2⟩ := (q (k + 1) (by omega)).mpr w
      rw [h2 (k + 1) (by omega) row r1] at r2
      cases r2
