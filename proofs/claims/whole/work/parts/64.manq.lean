/-! men that are read; parents -/
def mkN (f : Nat → Bool) : Nat → Nat
  | 0 => 0
  | d + 1 => if f d = true then mkN f d ||| 2 ^ d else mkN f d
theorem mkN_lt (f : Nat → Bool) : ∀ m, mkN f m < 2 ^ m
  | 0 => by simp [mkN]
  | m + 1 => by
    have h := mkN_lt f m
    unfold mkN
    split
    · exact or_lt h (Nat.lt_succ_self _)
    · exact Nat.lt_of_lt_of_le h (Nat.pow_le_pow_right (by decide) (by omega))
theorem mkN_bit (f : Nat → Bool) : ∀ m i, (mkN f m).testBit i = (decide (i < m) && f i)
  | 0, i => by simp [mkN]
  | m + 1, i => by
    unfold mkN
    by_cases h : f m = true
    · rw [if_pos h, Nat.testBit_or, mkN_bit f m i, Nat.testBit_two_pow]
      by_cases e : i = m
      · subst e; simp [h]
      · by_cases q : i < m
        · simp [q, show i < m + 1 by omega, show ¬ m = i by omega]
        · simp [q, show ¬ i < m + 1 by omega, show ¬ m = i by omega]
    · rw [if_neg h, mkN_bit f m i]
      by_cases e : i = m
      · subst e; simp [h]
      · by_cases q : i < m
        · simp [q, show i < m + 1 by omega]
        · simp [q, show ¬ i < m + 1 by omega]
theorem mkN_0 {f : Nat → Bool} : ∀ {m}, (mkN f m = 0 ↔ ∀ i, i < m → f i = false) := by
  intro m
  constructor
  · intro h i hi
    have := mkN_bit f m i
    rw [h, Nat.zero_testBit, decide_eq_true hi, Bool.true_and] at this
    exact this.symm
  · intro h
    apply Nat.eq_of_testBit_eq
    intro i
    rw [mkN_bit, Nat.zero_testBit]
    by_cases hi : i < m
    · rw [h i hi, Bool.and_false]
    · rw [decide_eq_false hi]; rfl
def kpB (P : Pg) (d m : Nat) : Bool := decide (P (8 + m) = nI d)
def romB (Λ : Lw) (P : Pg) (d : Nat) : Bool := decide (cntC (kpB P d) (lM Λ) < rmN Λ d)
theorem popN_cnt (a : Nat) : ∀ k, popN a k = cntC (fun i => a.testBit i) k
  | 0 => rfl
  | k + 1 => by
    show popN a k + a / 2 ^ k % 2 = cntC _ k + (if a.testBit k = true then 1 else 0)
    rw [popN_cnt a k, Nat.testBit_eq_decide_div_mod_eq]
    have : a / 2 ^ k % 2 < 2 := Nat.mod_lt _ (by decide)
    by_cases h : a / 2 ^ k % 2 = 1
    · rw [decide_eq_true h, if_pos rfl, h]
    · rw [decide_eq_false h, if_neg (by decide)]; omega
theorem cnt_cut {f : Nat → Bool} {m n : Nat} (h : m ≤ n) : cntC (fun i => decide (i < m) && f i) n = cntC f m := by
  obtain ⟨d, rfl⟩ : ∃ d, n = m + d := ⟨n - m, by omega⟩
  rw [cntC_add, cntC_congr m (g := f) (fun i hi => by rw [decide_eq_true hi, Bool.true_and]), cntC_none d (fun i _ => by rw [decide_eq_false (by omega)]; rfl)]
  rfl
theorem pop_kep {P : Pg} {d m : Nat} (hm : m ≤ 5) : pop5 (kepN P d m) = cntC (kpB P d) m := by
  rw [← popN_5 (lt32 (kepN_lt P d m) hm), popN_cnt, ← cnt_cut (f := kpB P d) hm]
  exact cntC_congr 5 (fun i _ => kepN_bit P d m i)
theorem rom_iff {Λ : Lw} {P : Pg} (hL : OkL Λ) {d : Nat} (hd : d < lD Λ) : nI (pop5 (kepN P d (lM Λ))) < lRm Λ d ↔ romB Λ P d = true := by
  have hM := hL.2.1
  obtain ⟨e, h3⟩ := rmN_eq hL hd
  have := cntC_le (kpB P d) (lM Λ)
  rw [pop_kep hM, e, nI_ltI (by omega) (by omega)]
  unfold romB
  rw [decide_eq_true_eq]
theorem tkM_1n {t : Nat} {Λ : Lw} {P : Pg} (hL : OkL Λ) (hM : lM Λ < 5) (ht : t ≠ 45) : tkM 1 t Λ P = if fgN t < lD Λ ∧ romB Λ P (fgN t) = true then some (Λ, upd P (8 + lM Λ) (nI (fgN t))) else none := by
  have hD := hL.1
  unfold tkM
  rw [if_neg (by omega), if_pos rfl]
  by_cases h : fgN t < lD Λ ∧ romB Λ P (fgN t) = true
  · rw [if_pos h, if_pos (Or.inr ⟨h.1, (rom_iff hL h.1).mpr h.2⟩), fgI_n (by omega)]
  · rw [if_neg h, if_neg]
    rintro (q | q)
    · exact ht q
    · exact h ⟨q.1, (rom_iff hL q.1).mp q.2⟩
theorem tkM_1s {Λ : Lw} {P : Pg} (hM : lM Λ < 5) : tkM 1 45 Λ P = some (Λ, upd P (8 + lM Λ) no9) := by
  unfold tkM
  rw [if_neg (by omega), if_pos rfl, if_pos (Or.inl rfl)]
  rfl
theorem tkM_2n {t f s : Nat} {Λ : Lw} {P : Pg} (hL : OkN Λ) (hM : lM Λ < 5) (hf : f < lD Λ) (hs : s < 5) (e1 : P (8 + lM Λ) = nI f) (e2 : P f = nI s) : tkM 2 t Λ P = if fgN t = s then some (Λ, upd P (13 + lM Λ) (nI (fgN t))) else none := by
  have hD := hL.1
  have h10 := fgN_le t
  have hc : (if inD (P (8 + lM Λ)) (lD Λ) = true then fgI (fgN t) = P (P (8 + lM Λ)).toNatClampNeg else fgN t < 5) ↔ fgN t = s := by
    rw [if_pos (by rw [e1, inD_nI (by omega) hf]), e1, nI_cl (by omega), e2]
    constructor
    · intro q
      by_cases h2 : fgN t = 10
      · rw [h2, fgI_10] at q
        exact absurd q.symm (nI_n9 (by omega))
      · rw [fgI_n h2] at q
        exact (nI_eq (by omega) (by omega)).mp q
    · intro q
      rw [fgI_n (by omega), q]
  unfold tkM
  rw [if_neg (by omega), if_neg (by decide), if_pos rfl]
  by_cases h : fgN t = s
  · rw [if_pos h, if_pos (hc.mpr h), fgI_n (by omega)]
  · rw [if_neg h, if_neg (fun q => h (hc.mp q))]
theorem tkM_2s {t : Nat} {Λ : Lw} {P : Pg} (hM : lM Λ < 5) (e1 : P (8 + lM Λ) = no9) : tkM 2 t Λ P = if fgN t ≤ 4 then some (Λ, upd P (13 + lM Λ) (nI (fgN t))) else none := by
  have hc : (if inD (P (8 + lM Λ)) (lD Λ) = true then fgI (fgN t) = P (P (8 + lM Λ)).toNatClampNeg else fgN t < 5) ↔ fgN t ≤ 4 := by
    rw [if_neg (by rw [e1, inD_no]; decide)]
    omega
  unfold tkM
  rw [if_neg (by omega), if_neg (by decide), if_pos rfl]
  by_cases h : fgN t ≤ 4
  · rw [if_pos h, if_pos (hc.mpr h), fgI_n (by omega)]
  · rw [if_neg h, if_neg (fun q => h (hc.mp q))]
theorem tkM_3 {t : Nat} {Λ : Lw} {P : Pg} (hM : lM Λ < 5) : tkM 3 t Λ P = if fgN t ≤ 1 then some (lwMan Λ (upd (lSi Λ) (lM Λ) (nI (fgN t))), P) else none := by
  unfold tkM
  rw [if_neg (by omega), if_neg (by decide), if_neg (by decide)]
theorem XQ_man {M : Mm} {Λ : Lw} {P : Pg} {a b c : Int32} (h : XQ M Λ P) (hD : lD Λ ≤ 4) : XQ (wI (wI (wI (wI M 157 (3 * lM Λ) a) 157 (3 * lM Λ + 1) b) 157 (3 * lM Λ + 2) c) 150 11 (nI (lM Λ + 1))) (lwMan Λ (upd (lSi Λ) (lM Λ) c)) (upd (upd P (8 + lM Λ) a) (13 + lM Λ) b) ∨ 5 ≤ lM Λ := by
  by_cases h4 : 5 ≤ lM Λ
  · exact Or.inr h4
  refine Or.inl ?_
  obtain ⟨⟨h1, h2, h3⟩, h5, h6, h7⟩ := h
  refine ⟨⟨?_, wI_at _ _ _ _, ?_⟩, fun i hi => ?_, fun d hd => ?_, fun m hm => ?_⟩
  · rw [wI_nk (by decide), wI_na (by decide), wI_na (by decide), wI_na (by decide)]; exact h1
  · rw [wI_nk (by decide), wI_na (by decide), wI_na (by decide), wI_na (by decide)]; exact h3
  · rw [wI_na (by decide), wI_na (by decide), wI_na (by decide), wI_na (by decide)]; exact h5 i hi
  · have hd : d < lD Λ := hd
    show _ = upd (upd P (8 + lM Λ) a) (13 + lM Λ) b d ∧ _ = lRa Λ d ∧ _ = lRm Λ d ∧ _ = lPa Λ d
    rw [upd_n (by omega), upd_n (by omega)]
    obtain ⟨g1, g2, g3, g4⟩ := h6 d hd
    refine ⟨?_, ?_, ?_, ?_⟩
    all_goals rw [wI_na (by decide), wI_na (by decide), wI_na (by decide), wI_na (by decide)]
    · exact g1
    · exact g2
    · exact g3
    · exact g4
  · have hm : m < lM Λ + 1 := hm
    show _ = upd (upd P (8 + lM Λ) a) (13 + lM Λ) b (8 + m) ∧ _ = upd (upd P (8 + lM Λ) a) (13 + lM Λ) b (13 + m) ∧ _ = upd (lSi Λ) (lM Λ) c m
    by_cases e : m = lM Λ
    · subst e
      rw [upd_n (show 8 + lM Λ ≠ 13 + lM Λ by omega), upd_at, upd_at, upd_at]
      refine ⟨?_, ?_, ?_⟩
      · rw [wI_na (by decide), wI_nk (by omega), wI_nk (by omega), wI_at]
      · rw [wI_na (by decide), wI_nk (by omega), wI_at]
      · rw [wI_na (by decide), wI_at]
    · rw [upd_n (show 8 + m ≠ 13 + lM Λ by omega), upd_n (show 8 + m ≠ 8 + lM Λ by omega), upd_n (show 13 + m ≠ 13 + lM Λ by omega), upd_n (show 13 + m ≠ 8 + lM Λ by omega), upd_n e]
      obtain ⟨g1, g2, g3⟩ := h7 m (by omega)
      refine ⟨?_, ?_, ?_⟩
      all_goals rw [wI_na (by decide), wI_nk (by omega), wI_nk (by omega), wI_nk (by omega)]
      · exact g1
      · exact g2
      · exact g3
theorem OkF_man {Λ : Lw} {P : Pg} {s x : Nat} {dv : Int32} (h : OkF Λ P) (hM : lM Λ < 5) (hs : s < 5) (hx : x ≤ 1) (hd : dv = no9 ∨ ∃ d, d < lD Λ ∧ dv = nI d) (hst : ∀ d, d < lD Λ → dv = nI d → nI s = P d) : OkF (lwMan Λ (upd (lSi Λ) (lM Λ) (nI x))) (upd (upd P (8 + lM Λ) dv) (13 + lM Λ) (nI s)) := by
  obtain ⟨⟨l1, l2, l3, l4, l5, l6⟩, hA, h1, h2, z1, z2, z3, z4⟩ := h
  refine ⟨⟨l1, hM, l3, l4, l5, fun m hm => ?_⟩, hA, fun d hd => ?_, fun m hm => ?_, fun d hd => ?_, fun m hm => ?_, ?_, ?_⟩
  · have hm : m < lM Λ + 1 := hm
    show upd (lSi Λ) (lM Λ) (nI x) m = nI 0 ∨ upd (lSi Λ) (lM Λ) (nI x) m = nI 1
    by_cases e : m = lM Λ
    · subst e
      rw [upd_at]
      rcases (show x = 0 ∨ x = 1 by omega) with q | q
      · exact Or.inl (by rw [q])
      · exact Or.inr (by rw [q])
    · rw [upd_n e]; exact l6 m (by omega)
  · have hd : d < lD Λ := hd
    rw [upd_n (by omega), upd_n (by omega)]
    exact h1 d hd
  · have hm : m < lM Λ + 1 := hm
    by_cases e : m = lM Λ
    · subst e
      rw [upd_n (show 8 + lM Λ ≠ 13 + lM Λ by omega), upd_at, upd_at]
      refine ⟨hd, ⟨s, hs, rfl⟩, fun d hdd e => ?_⟩
      have hdd : d < lD Λ := hdd
      rw [upd_n (by omega), upd_n (by omega)]
      exact hst d hdd e
    · rw [upd_n (show 8 + m ≠ 13 + lM Λ by omega), upd_n (show 8 + m ≠ 8 + lM Λ by omega), upd_n (show 13 + m ≠ 13 + lM Λ by omega), upd_n (show 13 + m ≠ 8 + lM Λ by omega)]
      obtain ⟨g1, g2, g3⟩ := h2 m (by omega)
      refine ⟨g1, g2, fun d hdd e => ?_⟩
      have hdd : d < lD Λ := hdd
      rw [upd_n (by omega), upd_n (by omega)]
      exact g3 d hdd e
  · rw [upd_n (by omega), upd_n (by omega)]; exact z1 d hd
  · rw [upd_n (by omega), upd_n (by omega)]; exact z2 m hm
  · rw [upd_n (by omega), upd_n (by omega)]; exact z3
  · rw [upd_n (by omega), upd_n (by omega)]; exact z4
/-! who comes from whom -/
theorem cfN_more {q : Nat → Nat} {D : Nat} : ∀ n x f, rtB q D n x = true → cfN q D (n + 1) x f = cfN q D n x f
  | 0, x, f, h => by
    unfold rtB at h
    simp only [Bool.not_eq_true', decide_eq_false_iff_not] at h
    unfold cfN
    rw [if_neg h]
  | n + 1, x, f, h => by
    unfold rtB at h
    have e : ∀ k, cfN q D (k + 1) x f = if x < D then (if x = f then true else cfN q D k (q x) f) else false := fun k => rfl
    rw [e, e]
    by_cases hx : x < D
    · rw [if_pos hx] at h
      rw [if_pos hx, if_pos hx, cfN_more n (q x) f h]
    · rw [if_neg hx, if_neg hx]
/-- whose parent a dog could be -/
def yoB (Λ : Lw) (i j : Nat) : Bool := !decide (j = i) && (decide (pq (lPa Λ) j = 9) && !cfN (pq (lPa Λ)) (lD Λ) 4 i j)
def rotq (q : Nat → Nat) : Nat → Nat
  | 0 => 0
  | d + 1 => rotq q d + (if q d = 9 then 1 else 0)
def yoq (q : Nat → Nat) (D i j : Nat) : Bool := !decide (j = i) && (decide (q j = 9) && !cfN q D 4 i j)
def parq (q : Nat → Nat) (D : Nat) : Bool := allN D (fun i => anyN D (yoq q D i) == decide (1 < rotq q D)) && allN D (fun f => allN D (fun p => !yoq q D p f || okq (fun x => if x = f then p else q x) D))
theorem par_all : ([0, 1, 2, 3, 4].all fun D => five.all fun a => five.all fun b => five.all fun c => five.all fun e => !okq (qf a b c e) D || parq (qf a b c e) D) = true := by decide +kernel
theorem cfN_cg {q q' : Nat → Nat} {D : Nat} (h : ∀ k, k < D → q k = q' k) : ∀ n x f, cfN q D n x f = cfN q' D n x f
  | 0, _, _ => rfl
  | n + 1, x, f => by
    unfold cfN
    by_cases hx : x < D
    · rw [if_pos hx, if_pos hx, h x hx, cfN_cg h n]
    · rw [if_neg hx, if_neg hx]
theorem rotq_cg {q q' : Nat → Nat} : ∀ D, (∀ k, k < D → q k = q' k) → rotq q D = rotq q' D
  | 0, _ => rfl
  | D + 1, h => by
    unfold rotq
    rw [rotq_cg D (fun k hk => h k (by omega)), h D (Nat.lt_succ_self D)]
theorem okq_cg {q q' : Nat → Nat} {D : Nat} (h : ∀ k, k < D → q k = q' k) (hq : okq q' D = true) : okq q D = true := List.all_eq_true.mpr (fun k hk => by
  have := List.all_eq_true.mp hq k hk
  have hk := List.mem_range.mp hk
  rw [h k hk, rtB_cg h]
  exact this)
theorem par_facts {q : Nat → Nat} {D : Nat} (hD : D ≤ 4) (hq : okq q D = true) : (∀ i, i < D → anyN D (yoq q D i) = decide (1 < rotq q D)) ∧ ∀ p f, p < D → f < D → yoq q D p f = true → okq (fun x => if x = f then p else q x) D = true := by
  have hv : ∀ k, k < D → q k = 9 ∨ q k < D := fun k hk => by
    have := allN_at hq hk
    simp only [Bool.and_eq_true, Bool.or_eq_true, decide_eq_true_eq] at this
    exact this.1
  obtain ⟨g, hg⟩ : ∃ g : Nat → Nat, ∀ k, g k = if k < D then q k else 9 := ⟨_, fun _ => rfl⟩
  have g9 : ∀ k, g k = 9 ∨ g k < D := fun k => by
    rw [hg]
    split
    · exact hv k (by assumption)
    · exact Or.inl rfl
  have e : ∀ k, k < D → q k = qf (g 0) (g 1) (g 2) (g 3) k := fun k hk => by
    have e0 : q k = g k := by rw [hg, if_pos hk]
    rw [e0]
    have : k = 0 ∨ k = 1 ∨ k = 2 ∨ k = 3 := by omega
    rcases this with rfl | rfl | rfl | rfl <;> rfl
  have h1 := List.all_eq_true.mp par_all D (by have : D = 0 ∨ D = 1 ∨ D = 2 ∨ D = 3 ∨ D = 4 := by omega
                                               rcases this with rfl | rfl | rfl | rfl | rfl <;> decide)
  have h2 := List.all_eq_true.mp h1 _ (five_of hD (g9 0))
  have h3 := List.all_eq_true.mp h2 _ (five_of hD (g9 1))
  have h4 := List.all_eq_true.mp h3 _ (five_of hD (g9 2))
  have h5 := List.all_eq_true.mp h4 _ (five_of hD (g9 3))
  generalize qf (g 0) (g 1) (g 2) (g 3) = p at e h5
  rw [okq_cg (fun k hk => (e k hk).symm) hq] at h5
  have h6 : parq p D = true := by simpa using h5
  unfold parq at h6
  rw [Bool.and_eq_true] at h6
  have ey : ∀ i j, j < D → yoq q D i j = yoq p D i j := fun i j hj => by
    unfold yoq
    rw [e j hj, cfN_cg e]
  refine ⟨fun i hi => ?_, fun p' f hp hf hy => ?_⟩
  · have w := allN_at h6.1 hi
    have w : anyN D (yoq p D i) = decide (1 < rotq p D) := by simpa using w
    rw [rotq_cg D e, ← w]
    cases h7 : anyN D (yoq p D i) with
    | true =>
      obtain ⟨m, hm, w2⟩ := List.any_eq_true.mp h7
      have hm := List.mem_range.mp hm
      exact anyN_t hm (by rw [ey i m hm]; exact w2)
    | false => exact anyN_f (fun m hm => by rw [ey i m hm]; exact anyN_iff.mp h7 m hm)
  · have w := allN_at (allN_at h6.2 hf) hp
    rw [ey p' f hf] at hy
    rw [hy] at w
    exact okq_cg (fun k hk => by
      show (if k = f then p' else q k) = if k = f then p' else p k
      rw [e k hk]) (by simpa using w)
theorem okq_of {Λ : Lw} (hL : OkL Λ) (hA : AcL Λ) : okq (pq (lPa Λ)) (lD Λ) = true := List.all_eq_true.mpr (fun k hk => by
  have hk := List.mem_range.mp hk
  rw [hA k hk, Bool.and_true, Bool.or_eq_true, decide_eq_true_eq, decide_eq_true_eq]
  exact (pq_ok hL.pa hL.N hk).2)
theorem rot_eq (pa : Pg) (hp : ∀ d, d < 4 → (pq pa d = 9 ↔ pa d = no9)) : ∀ D, D ≤ 4 → rootN pa D = rotq (pq pa) D
  | 0, _ => rfl
  | D + 1, h => by
    unfold rootN rotq
    rw [rot_eq pa hp D (by omega)]
    by_cases e : pa D = no9
    · rw [if_pos e, if_pos ((hp D (by omega)).mpr e)]
    · rw [if_neg e, if_neg (fun q => e ((hp D (by omega)).mp q))]
