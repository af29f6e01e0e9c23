/-! a row of figures against the street where a man would be lost -/
theorem kepN_bit (P : Pg) (d : Nat) : ∀ m i, (kepN P d m).testBit i = (decide (i < m) && decide (P (8 + i) = nI d))
  | 0, i => by simp [kepN]
  | m + 1, i => by
    unfold kepN
    by_cases h : P (8 + m) = nI d
    · rw [if_pos h, Nat.testBit_or, kepN_bit P d m i, Nat.testBit_two_pow]
      by_cases e : i = m
      · subst e; simp [h]
      · by_cases q : i < m
        · simp [q, show i < m + 1 by omega, show ¬ m = i by omega]
        · simp [q, show ¬ i < m + 1 by omega, show ¬ m = i by omega]
    · rw [if_neg h, kepN_bit P d m i]
      by_cases e : i = m
      · subst e; simp [h]
      · by_cases q : i < m
        · simp [q, show i < m + 1 by omega]
        · simp [q, show ¬ i < m + 1 by omega]
/-- whether a man would be caught -/
def catB (Λ : Lw) (late : Bool) (wd : Int32) (Q : Pg) (i : Nat) : Bool := !decide (0 < Q (19 + i)) && (decide (Q (13 + i) = wd) && mayP Λ Q i late)
theorem mayP_cg {Λ : Lw} {P Q : Pg} {m : Nat} {late : Bool} (h1 : Q (8 + m) = P (8 + m)) (h2 : Q 18 = P 18) : mayP Λ Q m late = mayP Λ P m late := by
  unfold mayP
  rw [h1, h2]
theorem hit_at {Λ : Lw} {Q : Pg} {late : Bool} {wd : Int32} {h : Nat} (hL : OkN Λ) (hO : OkP Λ Q h) : ∀ m, m ≤ lM Λ → (∀ j, (j < 4 ∨ (8 ≤ j ∧ j < 13) ∨ j = 18) → (hitP Λ late wd (nI 0, Q) m).2 j = Q j) ∧ (∀ i, m ≤ i → i < 5 → (hitP Λ late wd (nI 0, Q) m).2 (13 + i) = Q (13 + i) ∧ (hitP Λ late wd (nI 0, Q) m).2 (19 + i) = Q (19 + i)) ∧ (∀ i, i < m → (hitP Λ late wd (nI 0, Q) m).2 (19 + i) = if 0 < Q (19 + i) then Q (19 + i) - nI 1 else if catB Λ late wd Q i = true then nI 3 else Q (19 + i)) ∧ ∃ a, a < 2 ^ m ∧ (hitP Λ late wd (nI 0, Q) m).1 = nI a ∧ ∀ i, i < m → a.testBit i = catB Λ late wd Q i
  | 0, _ => ⟨fun _ _ => rfl, fun _ _ _ => ⟨rfl, rfl⟩, fun i hi => absurd hi (Nat.not_lt_zero _), 0, by decide, rfl, fun i hi => absurd hi (Nat.not_lt_zero _)⟩
  | m + 1, hm => by
    have hM := hL.2.1
    have hD := hL.1
    obtain ⟨g1, g2, g3, a, a1, a2, a3⟩ := hit_at (late := late) (wd := wd) hL hO m (by omega)
    have e : hitP Λ late wd (nI 0, Q) (m + 1) = hstP Λ late wd (hitP Λ late wd (nI 0, Q) m) m := rfl
    rw [e]
    generalize hitP Λ late wd (nI 0, Q) m = c at g1 g2 g3 a2 ⊢
    obtain ⟨m1, m2⟩ := g2 m (Nat.le_refl _) (by omega)
    have k1 := g1 (8 + m) (by omega)
    have hmay : mayP Λ c.2 m late = mayP Λ Q m late := mayP_cg k1 (g1 18 (by omega))
    have hw : a < 2 ^ (m + 1) := Nat.lt_of_lt_of_le a1 (Nat.pow_le_pow_right (by decide) (by omega))
    have hab : ∀ i, m ≤ i → a.testBit i = false := fun i hi => Nat.testBit_lt_two_pow (Nat.lt_of_lt_of_le a1 (Nat.pow_le_pow_right (by decide) hi))
    have hkp : ∀ j, (8 ≤ j ∧ j < 25) ∨ j < 4 → j ≠ 4 + (Q (8 + m)).toNatClampNeg ∨ Q (8 + m) = no9 := fun j hj => by
      rcases (hO.2.2.1 m (by omega)).1 with q | ⟨d, hd, q⟩
      · exact Or.inr q
      · left; rw [q, nI_cl (by omega)]; omega
    unfold hstP
    rw [m1, m2, hmay]
    by_cases h0 : 0 < Q (19 + m)
    · rw [if_pos h0]
      have hA : ∀ j, j ≠ 19 + m → j ≠ 13 + m → servP c.2 m j = c.2 j := by
        intro j n1 n2
        unfold servP
        split <;> simp [upd, n1, n2]
      have hB : servP c.2 m (19 + m) = Q (19 + m) - nI 1 := by
        unfold servP
        rw [m2]
        split <;> simp [upd, show 19 + m ≠ 13 + m by omega]
      refine ⟨fun j hj => (hA j (by omega) (by omega)).trans (g1 j hj), fun i hi hi5 => ⟨(hA _ (by omega) (by omega)).trans (g2 i (by omega) hi5).1, (hA _ (by omega) (by omega)).trans (g2 i (by omega) hi5).2⟩, fun i hi => ?_, a, hw, a2, fun i hi => ?_⟩
      · by_cases e : i = m
        · subst e; rw [if_pos h0]; exact hB
        · rw [← g3 i (by omega)]; exact hA _ (by omega) (by omega)
      · by_cases e : i = m
        · subst e
          rw [hab i (Nat.le_refl _)]
          unfold catB
          rw [decide_eq_true h0]
          rfl
        · exact a3 i (by omega)
    · rw [if_neg h0]
      by_cases h2 : Q (13 + m) = wd ∧ mayP Λ Q m late = true
      · rw [if_pos h2]
        have hc : catB Λ late wd Q m = true := by unfold catB; rw [decide_eq_false h0, decide_eq_true h2.1, h2.2]; rfl
        have hA : ∀ j, ((8 ≤ j ∧ j < 25) ∨ j < 4) → j ≠ 19 + m → catP c.2 m j = c.2 j := by
          intro j hj n1
          unfold catP
          rw [k1]
          split
          · rename_i q
            rcases hkp j hj with w | w
            · simp [upd, n1, w]
            · exact absurd w q
          · simp [upd, n1]
        have hB : catP c.2 m (19 + m) = nI 3 := by
          unfold catP
          rw [k1]
          split
          · rename_i q
            rcases hkp (19 + m) (by omega) with w | w
            · simp [upd, w]
            · exact absurd w q
          · simp [upd]
        refine ⟨fun j hj => (hA j (by omega) (by omega)).trans (g1 j hj), fun i hi hi5 => ⟨(hA _ (by omega) (by omega)).trans (g2 i (by omega) hi5).1, (hA _ (by omega) (by omega)).trans (g2 i (by omega) hi5).2⟩, fun i hi => ?_, a ||| 2 ^ m, or_lt a1 (Nat.lt_succ_self m), ?_, fun i hi => ?_⟩
        · by_cases e : i = m
          · subst e; rw [if_neg h0, if_pos hc]; exact hB
          · rw [← g3 i (by omega)]; exact hA _ (by omega) (by omega)
        · show c.1 ||| bit m = _
          rw [a2, or_bit (by omega)]
        · rw [Nat.testBit_or, Nat.testBit_two_pow]
          by_cases e : i = m
          · subst e; rw [hc]; simp
          · rw [a3 i (by omega)]; simp [show ¬ m = i by omega]
      · rw [if_neg h2]
        have hc : catB Λ late wd Q m = false := by
          cases hq : catB Λ late wd Q m with
          | false => rfl
          | true =>
            unfold catB at hq
            simp only [Bool.and_eq_true, decide_eq_true_eq] at hq
            exact absurd hq.2 h2
        refine ⟨g1, fun i hi hi5 => g2 i (by omega) hi5, fun i hi => ?_, a, hw, a2, fun i hi => ?_⟩
        · by_cases e : i = m
          · subst e; rw [if_neg h0, hc, if_neg (by decide)]; exact m2
          · exact g3 i (by omega)
        · by_cases e : i = m
          · subst e; rw [hab i (Nat.le_refl _), hc]
          · exact a3 i (by omega)
/-- what a page is after k steps of a dog, none of whose men was caught -/
def GI (Λ : Lw) (P : Pg) (h d k : Nat) (Q : Pg) (t : Nat) : Prop := OkP Λ Q (h + k) ∧ Q d = nI t ∧ (∀ o, o < lD Λ → o ≠ d → Q o = P o) ∧ (∀ m, m < lM Λ → Q (8 + m) = P (8 + m)) ∧ Q 18 = P 18 ∧ ∀ m s, m < lM Λ → P (8 + m) = nI d → P (19 + m) = nI s → s ≤ 3 → Q (19 + m) = nI (s - k)
theorem and_z {a b : Nat} (ha : a < 32) (hb : b < 32) : nI a &&& nI b = 0 ↔ ∀ i, i < 5 → ¬ (a.testBit i = true ∧ b.testBit i = true) := by
  rw [nx_and]
  have hab : a &&& b < 32 := Nat.lt_of_le_of_lt Nat.and_le_left ha
  rw [show (0 : Int32) = nI 0 from rfl, nI_eq (by omega) (by decide)]
  constructor
  · intro h i _ q
    have : (a &&& b).testBit i = true := by rw [Nat.testBit_and, q.1, q.2]; rfl
    rw [h, Nat.zero_testBit] at this
    cases this
  · intro h
    apply Nat.eq_of_testBit_eq
    intro i
    rw [Nat.zero_testBit, Nat.testBit_and]
    by_cases hi : i < 5
    · cases e1 : a.testBit i with
      | false => rfl
      | true =>
        cases e2 : b.testBit i with
        | false => rfl
        | true => exact absurd ⟨e1, e2⟩ (h i hi)
    · rw [Nat.testBit_lt_two_pow (Nat.lt_of_lt_of_le ha (Nat.pow_le_pow_right (n := 2) (by decide) (show 5 ≤ i by omega)))]
      rfl
theorem goP_at {Λ : Lw} {Q : Pg} {d v j : Nat} (hL : OkN Λ) (h : j < 13 ∨ 18 ≤ j) (hj : j ≠ d) : goP Λ Q d v j = Q j := goPn_same h hL.2.1 hj
theorem goP_d {Λ : Lw} {Q : Pg} {d v : Nat} : goP Λ Q d v d = nI (stN (sN Q d) v) := by
  unfold goP goPn
  rw [if_pos rfl]
theorem GI.step {Λ : Lw} {P : Pg} {h d k t v : Nat} {Q : Pg} (G : GI Λ P h d k Q t) (hL : OkN Λ) (hP : OkP Λ P h) (hd : d < lD Λ) (ht : t < 5) (hK : k ≤ 9999) : ((hourP Λ (goP Λ Q d v) (h + k) 0 (lLe Λ)).1 &&& nI (kepN P d (lM Λ)) = 0 ↔ ¬ nI (stN t v) = perP Λ P d h k) ∧ ((hourP Λ (goP Λ Q d v) (h + k) 0 (lLe Λ)).1 &&& nI (kepN P d (lM Λ)) = 0 → GI Λ P h d (k + 1) (hourP Λ (goP Λ Q d v) (h + k) 0 (lLe Λ)).2 (stN t v)) := by
  obtain ⟨O, e1, e2, e3, e4, e5⟩ := G
  have hD := hL.1
  have hM := hL.2.1
  have O1 : OkP Λ (goP Λ Q d v) (h + k) := O.go hL hd
  have O2 := O1.hour hL 0 (lLe Λ)
  have d1 : goP Λ Q d v d = nI (stN t v) := by rw [goP_d, show sN Q d = t by unfold sN; rw [e1, nI_cl (by omega)]]
  have d2 : ∀ j, (j < 13 ∨ 18 ≤ j) → j ≠ d → goP Λ Q d v j = Q j := fun j hj hn => goP_at hL hj hn
  generalize goP Λ Q d v = Q1 at O1 O2 d1 d2 ⊢
  obtain ⟨late, hlate⟩ : ∃ late, decide (lLe Λ ≤ nI ((h + k) % 12)) = late := ⟨_, rfl⟩
  obtain ⟨g1, g2, g3, a, a1, a2, a3⟩ := hit_at (late := late) (wd := lRo Λ ((h + k) % 4)) hL O1 (lM Λ) (Nat.le_refl _)
  have hc1 : (hourP Λ Q1 (h + k) 0 (lLe Λ)).1 = nI a := by
    show (hitP Λ (decide (lLe Λ ≤ nI ((h + k) % 12))) (lRo Λ ((h + k + 0) % 4)) (nI 0, Q1) (lM Λ)).1 = _
    rw [hlate, Nat.add_zero]
    exact a2
  have hc2 : ∀ j, j ≠ 24 → (hourP Λ Q1 (h + k) 0 (lLe Λ)).2 j = (hitP Λ late (lRo Λ ((h + k) % 4)) (nI 0, Q1) (lM Λ)).2 j := fun j hj => by
    show upd (hitP Λ (decide (lLe Λ ≤ nI ((h + k) % 12))) (lRo Λ ((h + k + 0) % 4)) (nI 0, Q1) (lM Λ)).2 24 _ j = _
    rw [hlate, Nat.add_zero]
    simp only [upd, if_neg hj]
  have ha := lt32 a1 hM
  have hb := lt32 (kepN_lt P d (lM Λ)) hM
  have hz : (hourP Λ Q1 (h + k) 0 (lLe Λ)).1 &&& nI (kepN P d (lM Λ)) = 0 ↔ ∀ m, m < lM Λ → P (8 + m) = nI d → catB Λ late (lRo Λ ((h + k) % 4)) Q1 m = false := by
    rw [hc1, and_z ha hb]
    constructor
    · intro q m hm hk
      have := q m (by omega)
      rw [a3 m hm, kepN_bit, decide_eq_true hm, decide_eq_true hk] at this
      simpa using this
    · intro q i hi w
      rw [kepN_bit] at w
      have w2 := w.2
      simp only [Bool.and_eq_true, decide_eq_true_eq] at w2
      rw [a3 i w2.1, q i w2.1 w2.2] at w
      cases w.1
  have own : ∀ m, m < lM Λ → P (8 + m) = nI d → ∃ s, s ≤ 3 ∧ P (19 + m) = nI s ∧ Q1 (19 + m) = nI (s - k) ∧ Q1 (8 + m) = nI d ∧ (s ≤ k → Q1 (13 + m) = nI (stN t v)) ∧ mayP Λ Q1 m late = mayP Λ P m late := fun m hm hk => by
    obtain ⟨s, s3, es⟩ := (hP.2.2.1 m hm).2.2.1
    have q1 : Q1 (19 + m) = nI (s - k) := (d2 (19 + m) (by omega) (by omega)).trans (e5 m s hm hk es s3)
    have q2 : Q1 (8 + m) = P (8 + m) := (d2 (8 + m) (by omega) (by omega)).trans (e3 m hm)
    refine ⟨s, s3, es, q1, q2.trans hk, fun hs => ?_, mayP_cg q2 ((d2 18 (by omega) (by omega)).trans e4)⟩
    have := (O1.2.2.1 m hm).2.2.2 d hd (q2.trans hk) (by rw [q1, show s - k = 0 by omega])
    rw [this, d1]
  have hper : (∀ m, m < lM Λ → P (8 + m) = nI d → catB Λ late (lRo Λ ((h + k) % 4)) Q1 m = false) ↔ ¬ nI (stN t v) = perP Λ P d h k := by
    unfold perP
    rw [hlate]
    constructor
    · intro q w
      by_cases hany : anyN (lM Λ) (perB Λ P d k late) = true
      · rw [if_pos hany] at w
        obtain ⟨m, hm, hp⟩ := List.any_eq_true.mp hany
        have hm := List.mem_range.mp hm
        unfold perB at hp
        simp only [Bool.and_eq_true, decide_eq_true_eq] at hp
        obtain ⟨s, s3, es, r1, r2, r3, r4⟩ := own m hm hp.1
        have hsk : s ≤ k := by
          have := hp.2.1
          rw [es] at this
          rcases Nat.lt_or_ge k s with z | z
          · exact absurd this (Int32.not_le.mpr (nI_lt z (by omega)))
          · exact z
        have := q m hm hp.1
        unfold catB at this
        rw [r1, show s - k = 0 by omega, r3 hsk, r4, hp.2.2, ← w] at this
        simp at this
        exact absurd this (by decide)
      · rw [if_neg hany] at w
        exact nI_n9 (by have := stN_lt5 t v; omega) w
    · intro q m hm hk
      cases hc : catB Λ late (lRo Λ ((h + k) % 4)) Q1 m with
      | false => rfl
      | true =>
        exfalso
        obtain ⟨s, s3, es, r1, r2, r3, r4⟩ := own m hm hk
        unfold catB at hc
        simp only [Bool.and_eq_true, decide_eq_true_eq, Bool.not_eq_true', decide_eq_false_iff_not] at hc
        have hsk : s ≤ k := by
          rcases Nat.lt_or_ge k s with z | z
          · exact absurd (by rw [r1]; exact nI_lt (show 0 < s - k by omega) (by omega)) hc.1
          · exact z
        apply q
        rw [if_pos (anyN_t hm (by unfold perB; rw [decide_eq_true hk, es, decide_eq_true (nI_le hsk (by omega)), ← r4, hc.2.2]; rfl))]
        rw [← r3 hsk]
        exact hc.2.1
  refine ⟨hz.trans hper, fun q => ?_⟩
  have hz := hz.mp q
  refine ⟨by rw [show h + (k + 1) = h + k + 1 by omega]; exact O2, (hc2 d (by omega)).trans ((g1 d (by omega)).trans d1), fun o ho hn => (hc2 o (by omega)).trans ((g1 o (by omega)).trans ((d2 o (by omega) hn).trans (e2 o ho hn))), fun m hm => (hc2 _ (by omega)).trans ((g1 _ (by omega)).trans ((d2 _ (by omega) (by omega)).trans (e3 m hm))), (hc2 18 (by omega)).trans ((g1 18 (by omega)).trans ((d2 18 (by omega) (by omega)).trans e4)), fun m s hm hk es s3 => ?_⟩
  have q1 : Q1 (19 + m) = nI (s - k) := (d2 (19 + m) (by omega) (by omega)).trans (e5 m s hm hk es s3)
  rw [hc2 _ (by omega), g3 m hm, hz m hm hk, q1]
  by_cases z : s - k = 0
  · rw [z, if_neg (by decide), if_neg (by decide), show s - (k + 1) = 0 by omega]
  · rw [if_pos (show (0 : Int32) < nI (s - k) from nI_lt (show 0 < s - k by omega) (by omega)), pk_sub (by omega), show s - k - 1 = s - (k + 1) by omega]
/-- the street after k figures of a row -/
def stK (f n row : Nat) : Nat → Nat
  | 0 => f
  | k + 1 => stN (stK f n row k) (row / 3 ^ (n - 1 - k) % 3)
theorem stK_lt {f n row : Nat} (hf : f < 5) : ∀ k, stK f n row k < 5
  | 0 => hf
  | _ + 1 => stN_lt5 _ _
theorem gs_fwd {Λ : Lw} {P : Pg} {h d n row : Nat} {u : Bool} (hL : OkN Λ) (hP : OkP Λ P h) (hd : d < lD Λ) : ∀ k, k ≤ 9999 → (gsS Λ P h d n row u k).1 = true → GI Λ P h d k (gsS Λ P h d n row u k).2 (stK (sN P d) n row k) ∧ (∀ j, j < k → ¬ nI (stK (sN P d) n row (j + 1)) = perP Λ P d h j) ∧ (u = true → ∀ o, o < lD Λ → o ≠ d → lRa Λ o = lRa Λ d → ∀ j, j ≤ k → ¬ P o = nI (stK (sN P d) n row j)) := by
  obtain ⟨f1, f2⟩ := sN_dog hP hd
  have hal : ∀ Q : Pg, ∀ t, Q d = nI t → (∀ o, o < lD Λ → o ≠ d → Q o = P o) → alB Λ u Q d = true → u = true → ∀ o, o < lD Λ → o ≠ d → lRa Λ o = lRa Λ d → ¬ P o = nI t := by
    intro Q t q1 q2 q3 q4 o h1 h2 h3 h4
    subst q4
    unfold alB at q3
    rw [anyN_t h1 (by unfold aloB; rw [decide_eq_false h2, decide_eq_true h3, q1, q2 o h1 h2, decide_eq_true h4]; rfl)] at q3
    cases q3
  intro k
  induction k with
  | zero =>
    intro _ e
    refine ⟨⟨hP, f1, fun _ _ _ => rfl, fun _ _ => rfl, rfl, fun m s hm hk es s3 => es⟩, fun j hj => absurd hj (Nat.not_lt_zero _), fun hu o h1 h2 h3 j hj => ?_⟩
    obtain rfl : j = 0 := by omega
    exact hal P _ f1 (fun _ _ _ => rfl) e hu o h1 h2 h3
  | succ k ih =>
    intro hK e
    have e0 : (gsS Λ P h d n row u k).1 = true := by
      cases q : (gsS Λ P h d n row u k).1 with
      | true => rfl
      | false =>
        have := gsS_stuck q 1
        rw [this, q] at e
        cases e
    have es : gsS Λ P h d n row u (k + 1) = gs1 Λ h d k (row / 3 ^ (n - 1 - k) % 3) (nI (kepN P d (lM Λ))) u (gsS Λ P h d n row u k).2 := if_pos e0
    obtain ⟨G, i2, i3⟩ := ih (by omega) e0
    have hst := stK_lt (n := n) (row := row) f2 k
    rw [es] at e ⊢
    have st := G.step (v := row / 3 ^ (n - 1 - k) % 3) hL hP hd hst (by omega)
    unfold gs1 at e ⊢
    simp only [Bool.and_eq_true, decide_eq_true_eq] at e
    refine ⟨st.2 e.1, fun j hj => ?_, fun hu o h1 h2 h3 j hj => ?_⟩
    · by_cases ej : j = k
      · subst ej; exact st.1.mp e.1
      · exact i2 j (by omega)
    · by_cases ej : j = k + 1
      · subst ej
        refine hal _ _ ?_ ?_ e.2 hu o h1 h2 h3
        · rw [goP_d, show sN (gsS Λ P h d n row u k).2 d = stK (sN P d) n row k by show ((gsS Λ P h d n row u k).2 d).toNatClampNeg = _; rw [G.2.1, nI_cl (by omega)]]; rfl
        · intro o' p1 p2
          have hD := hL.1
          rw [goP_at hL (by omega) p2]
          exact G.2.2.1 o' p1 p2
      · exact i3 hu o h1 h2 h3 j (by omega)
theorem gs_bwd {Λ : Lw} {P : Pg} {h d n row : Nat} {u : Bool} (hL : OkN Λ) (hP : OkP Λ P h) (hd : d < lD Λ) (hn : u = true → anyN (lD Λ) (rivB Λ d) = false) : ∀ k, k ≤ 9999 → (∀ j, j < k → ¬ nI (stK (sN P d) n row (j + 1)) = perP Λ P d h j) → (gsS Λ P h d n row u k).1 = true := by
  obtain ⟨f1, f2⟩ := sN_dog hP hd
  have hal : ∀ Q : Pg, alB Λ u Q d = true := by
    intro Q
    unfold alB
    cases u with
    | false => rfl
    | true =>
      rw [anyN_f (fun o ho => ?_)]
      · rfl
      · unfold aloB
        cases e : (!decide (o = d) && (decide (lRa Λ o = lRa Λ d) && decide (Q o = Q d))) with
        | false => rfl
        | true =>
          simp only [Bool.and_eq_true, Bool.not_eq_true', decide_eq_false_iff_not, decide_eq_true_eq] at e
          have := anyN_t (f := rivB Λ d) ho (by unfold rivB; rw [decide_eq_true e.1, decide_eq_true e.2.1]; rfl)
          rw [hn rfl] at this
          cases this
  intro k
  induction k with
  | zero => intro _ _; exact hal P
  | succ k ih =>
    intro hK e
    have e0 := ih (by omega) (fun j hj => e j (by omega))
    have es : gsS Λ P h d n row u (k + 1) = gs1 Λ h d k (row / 3 ^ (n - 1 - k) % 3) (nI (kepN P d (lM Λ))) u (gsS Λ P h d n row u k).2 := if_pos e0
    rw [es]
    obtain ⟨G, i2, i3⟩ := gs_fwd hL hP hd k (by omega) e0
    have st := G.step (v := row / 3 ^ (n - 1 - k) % 3) hL hP hd (stK_lt f2 k) (by omega)
    unfold gs1
    rw [hal, decide_eq_true (st.1.mpr (e k (Nat.lt_succ_self _)))]
    rfl
theorem wkB_K {pe : Nat → Int32} {g row f n : Nat} : ∀ r, r ≤ n → (wkB pe g row r (n - r) (stK f n row (n - r)) = true ↔ (∀ j, n - r ≤ j → j < n → ¬ nI (stK f n row (j + 1)) = pe j) ∧ stK f n row n = g)
  | 0, _ => by
    show decide (stK f n row (n - 0) = g) = true ↔ _
    rw [Nat.sub_zero, decide_eq_true_eq]
    exact ⟨fun q => ⟨fun j h1 h2 => by omega, q⟩, fun q => q.2⟩
  | r + 1, hr => by
    have ih := wkB_K (pe := pe) (g := g) (row := row) (f := f) (n := n) r (by omega)
    have e : n - (r + 1) + 1 = n - r := by omega
    have es : stK f n row (n - r) = stN (stK f n row (n - (r + 1))) (row / 3 ^ r % 3) := by
      rw [← e]
      show stN _ (row / 3 ^ (n - 1 - (n - (r + 1))) % 3) = _
      rw [show n - 1 - (n - (r + 1)) = r by omega]
    show (!decide (nI (stN (stK f n row (n - (r + 1))) (row / 3 ^ r % 3)) = pe (n - (r + 1))) && wkB pe g row r (n - (r + 1) + 1) (stN (stK f n row (n - (r + 1))) (row / 3 ^ r % 3))) = true ↔ _
    rw [← es, e, Bool.and_eq_true, ih]
    simp only [Bool.not_eq_true', decide_eq_false_iff_not]
    constructor
    · rintro ⟨h1, h2, h3⟩
      refine ⟨fun j j1 j2 => ?_, h3⟩
      by_cases ej : j = n - (r + 1)
      · subst ej; rw [e]; exact h1
      · exact h2 j (by omega) j2
    · rintro ⟨h1, h3⟩
      refine ⟨?_, fun j j1 j2 => h1 j (by omega) j2, h3⟩
      have := h1 (n - (r + 1)) (Nat.le_refl _) (by omega)
      rw [e] at this
      exact this
/-- a row that goes well and ends on a street -/
def gdB (Λ : Lw) (P : Pg) (h d n g row : Nat) : Bool := (gsS Λ P h d n row false n).1 && decide ((gsS Λ P h d n row false n).2 d = nI g)
theorem gdB_wk {Λ : Lw} {P : Pg} {h d n g row : Nat} (hL : OkN Λ) (hP : OkP Λ P h) (hd : d < lD Λ) (hg : g < 5) (hn : n ≤ 9999) : gdB Λ P h d n g row = wkB (perP Λ P d h) g row n 0 (sN P d) := by
  have hw := wkB_K (pe := perP Λ P d h) (g := g) (row := row) (f := sN P d) (n := n) n (Nat.le_refl _)
  rw [Nat.sub_self] at hw
  have f2 := (sN_dog hP hd).2
  cases e : wkB (perP Λ P d h) g row n 0 (sN P d) with
  | true =>
    obtain ⟨w1, w2⟩ := hw.mp e
    have t := gs_bwd (u := false) hL hP hd (fun q => by cases q) n hn (fun j hj => w1 j (Nat.zero_le _) hj)
    obtain ⟨G, _⟩ := gs_fwd hL hP hd n hn t
    unfold gdB
    rw [t, G.2.1, w2]
    simp
  | false =>
    cases e2 : gdB Λ P h d n g row with
    | false => rfl
    | true =>
      unfold gdB at e2
      simp only [Bool.and_eq_true, decide_eq_true_eq] at e2
      obtain ⟨G, w1, _⟩ := gs_fwd hL hP hd n hn e2.1
      have : stK (sN P d) n row n = g := by
        have q := G.2.1
        rw [e2.2] at q
        exact ((nI_eq (by omega) (by have := stK_lt (n := n) (row := row) f2 n; omega)).mp q).symm
      have := hw.mpr ⟨fun j _ hj => w1 j hj, this⟩
      rw [show stK (sN P d) n row 0 = sN P d from rfl, e] at this
      cases this
theorem routes_eq {s : Sv} {B d n g w : Nat} (V : OkV B s) (hd : d < lD s.Λ) (hg : g < 5) (hn : n ≤ 9999) : (if w = 0 then nI (cntC (gdB s.Λ s.P s.h d n g) (3 ^ n)) else fsC (gdB s.Λ s.P s.h d n g) (fun row => nI (dvN row n 0)) (3 ^ n)) = oRoutesN s d n g w := by
  have e : gdB s.Λ s.P s.h d n g = fun row => wkB (perP s.Λ s.P d s.h) g row n 0 (sN s.P d) := by
    funext row
    exact gdB_wk V.l.N V.p hd hg hn
  unfold oRoutesN
  rw [e]
  split
  · rw [rows_cnt]
  · rw [rows_fst]
