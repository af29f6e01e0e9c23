/-! what is read: the reference's rows against the reader's state -/
def XQ (M : Mm) (Λ : Lw) (P : Pg) : Prop := (M.1 150 10 = nI (lD Λ) ∧ M.1 150 11 = nI (lM Λ) ∧ M.1 150 12 = lLe Λ) ∧ (∀ i, i < 4 → M.1 155 i = lRo Λ i) ∧ (∀ d, d < lD Λ → M.1 156 (4 * d) = P d ∧ M.1 156 (4 * d + 1) = lRa Λ d ∧ M.1 156 (4 * d + 2) = lRm Λ d ∧ M.1 156 (4 * d + 3) = lPa Λ d) ∧ ∀ m, m < lM Λ → M.1 157 (3 * m) = P (8 + m) ∧ M.1 157 (3 * m + 1) = P (13 + m) ∧ M.1 157 (3 * m + 2) = lSi Λ m
theorem XQ.mv {M M' : Mm} {Λ : Lw} {P : Pg} (h : XQ M Λ P) (q0 : ∀ k, 10 ≤ k → k < 13 → M'.1 150 k = M.1 150 k) (q : ∀ a, 155 ≤ a → a < 158 → ∀ k, M'.1 a k = M.1 a k) : XQ M' Λ P := by
  obtain ⟨⟨h1, h2, h3⟩, h4, h5, h6⟩ := h
  refine ⟨⟨(q0 _ (by decide) (by decide)).trans h1, (q0 _ (by decide) (by decide)).trans h2, (q0 _ (by decide) (by decide)).trans h3⟩, fun i hi => (q _ (by decide) (by decide) _).trans (h4 i hi), fun d hd => ?_, fun m hm => ?_⟩
  · rw [q 156 (by decide) (by decide), q 156 (by decide) (by decide), q 156 (by decide) (by decide), q 156 (by decide) (by decide)]; exact h5 d hd
  · rw [q 157 (by decide) (by decide), q 157 (by decide) (by decide), q 157 (by decide) (by decide)]; exact h6 m hm
theorem XQ.pl {M : Mm} {Λ : Lw} {P : Pg} (h : XQ M Λ P) (x : Int32) : XQ (wI M 150 3 x) Λ P := h.mv (fun k h1 h2 => wI_nk (by omega)) (fun a h1 h2 k => wI_na (by omega))
/-- what holds of what is read, between its parts -/
def ZP (P : Pg) : Prop := (∀ d, d < 4 → P (4 + d) = 0) ∧ (∀ m, m < 5 → P (19 + m) = 0) ∧ P 18 = 0 ∧ P 24 = 0
def OkF (Λ : Lw) (P : Pg) : Prop := OkL Λ ∧ AcL Λ ∧ (∀ d, d < lD Λ → ∃ s, s < 5 ∧ P d = nI s) ∧ (∀ m, m < lM Λ → (P (8 + m) = no9 ∨ ∃ d, d < lD Λ ∧ P (8 + m) = nI d) ∧ (∃ s, s < 5 ∧ P (13 + m) = nI s) ∧ ∀ d, d < lD Λ → P (8 + m) = nI d → P (13 + m) = P d) ∧ ZP P
theorem OkF.okp {Λ : Lw} {P : Pg} (h : OkF Λ P) : OkP Λ (nrm Λ P) 0 := by
  obtain ⟨hL, _, h1, h2, z1, z2, z3, z4⟩ := h
  have hD := hL.1
  have hM := hL.2.1
  refine ⟨by rw [nrm_24, z4]; rfl, fun d hd => ?_, fun m hm => ?_, fun d h3 h4 => ?_, fun m h3 h4 => ?_⟩
  · rw [nrm_d _ _ (by omega), if_pos hd]; exact h1 d hd
  · obtain ⟨g1, g2, g3⟩ := h2 m hm
    rw [nrm_k _ _ (by omega), nrm_m _ _ (by omega), nrm_s _ _ (by omega), if_pos hm, if_pos hm, if_pos hm]
    refine ⟨g1, g2, ⟨0, by decide, z2 m (by omega)⟩, fun d hd e1 _ => ?_⟩
    rw [nrm_d _ _ (by omega), if_pos hd]
    exact g3 d hd e1
  · rw [nrm_d _ _ h4, nrm_b _ _ h4, if_neg (by omega), if_neg (by omega)]; exact ⟨rfl, rfl⟩
  · rw [nrm_k _ _ h4, nrm_m _ _ h4, nrm_s _ _ h4, if_neg (by omega), if_neg (by omega), if_neg (by omega)]; exact ⟨rfl, rfl, rfl⟩
/-- the text has a fault at k -/
def FLt (σ0 : Rs) (T : Pg) (n k : Nat) : Prop := ∃ σ, rnS σ0 T k = some σ ∧ ((k < n ∧ stp σ (byt T k) = none) ∨ (k = n ∧ σ.1 ≠ 1))
theorem fl_of {σ0 σ : Rs} {T : Pg} {n k : Nat} (h : rnS σ0 T k = some σ) (h1 : σ.1 ≠ 1) (hk : k ≤ n) (h2 : k < n → stp σ (byt T k) = none) : FLt σ0 T n k := by
  refine ⟨σ, h, ?_⟩
  rcases Nat.lt_or_ge k n with q | q
  · exact Or.inl ⟨q, h2 q⟩
  · exact Or.inr ⟨by omega, h1⟩
theorem rn_s {σ0 σ : Rs} {T : Pg} {k : Nat} {o : Option Rs} (h : rnS σ0 T k = some σ) (h2 : stp σ (byt T k) = o) : rnS σ0 T (k + 1) = o := by
  show (rnS σ0 T k).bind _ = _
  rw [h]
  exact h2
def Bad (σ0 : Rs) (T : Pg) (n : Nat) (M : Mm) : Prop := ∃ k, RT M T n k ∧ FLt σ0 T n k
def Btw (σ0 : Rs) (T : Pg) (n : Nat) (M : Mm) (k : Nat) : Prop := RT M T n k ∧ ∃ l q Λ P, rnS σ0 T k = some (1, l, q, Λ, P) ∧ XQ M Λ P ∧ OkF Λ P
/-- what a part's reading comes to -/
def PO (σ0 : Rs) (T : Pg) (n : Nat) (M : Mm) (k : Nat) (r : Int32) (M' : Mm) : Prop := Sq M M' ∧ ((r = b2i false ∧ Bad σ0 T n M') ∨ (r = b2i true ∧ ∃ k', k < k' ∧ Btw σ0 T n M' k'))
section STP_
variable {l q t : Nat} {Λ Λ' : Lw} {P P' : Pg}
theorem stp_H (h : tkH l (fgN t) Λ = some Λ') : stp (76, l, q, Λ, P) t = some (if l + 1 = 7 then 1 else 76, l + 1, q, Λ', P) := by
  unfold stp oH
  rw [if_neg (by simp), if_neg (by simp), if_neg (by simp), if_pos rfl, h]
  rfl
theorem stp_H0 (h : tkH l (fgN t) Λ = none) : stp (76, l, q, Λ, P) t = none := by
  unfold stp oH
  rw [if_neg (by simp), if_neg (by simp), if_neg (by simp), if_pos rfl, h]
  rfl
theorem stp_D (h : tkD l (fgN t) Λ P = some (Λ', P')) : stp (68, l, q, Λ, P) t = some (if l + 1 = 4 then 1 else 68, l + 1, q, Λ', P') := by
  unfold stp oD
  rw [if_neg (by simp), if_neg (by simp), if_pos rfl, h]
  rfl
theorem stp_D0 (h : tkD l (fgN t) Λ P = none) : stp (68, l, q, Λ, P) t = none := by
  unfold stp oD
  rw [if_neg (by simp), if_neg (by simp), if_pos rfl, h]
  rfl
theorem stp_M (h : tkM l t Λ P = some (Λ', P')) : stp (77, l, q, Λ, P) t = some (if l + 1 = 4 then 1 else 77, l + 1, q, Λ', P') := by
  unfold stp oD
  rw [if_neg (by simp), if_neg (by simp), if_neg (by simp), if_neg (by simp), if_pos rfl, h]
  rfl
theorem stp_M0 (h : tkM l t Λ P = none) : stp (77, l, q, Λ, P) t = none := by
  unfold stp oD
  rw [if_neg (by simp), if_neg (by simp), if_neg (by simp), if_neg (by simp), if_pos rfl, h]
  rfl
theorem stp_P {q' : Nat} (h : tkP l (fgN t) q Λ = some (q', Λ')) : stp (80, l, q, Λ, P) t = some (if l + 1 = 3 then 1 else 80, l + 1, q', Λ', P) := by
  unfold stp oP
  rw [if_neg (by simp), if_neg (by simp), if_neg (by simp), if_neg (by simp), if_neg (by simp), h]
  rfl
theorem stp_P0 (h : tkP l (fgN t) q Λ = none) : stp (80, l, q, Λ, P) t = none := by
  unfold stp oP
  rw [if_neg (by simp), if_neg (by simp), if_neg (by simp), if_neg (by simp), if_neg (by simp), h]
  rfl
theorem stp_O (h : mayO Λ t = true) : stp (1, l, q, Λ, P) t = some (t, 1, q, Λ, P) := by
  unfold stp
  rw [if_neg (by simp), if_pos rfl]
  exact if_pos h
theorem stp_O0 (h : mayO Λ t = false) : stp (1, l, q, Λ, P) t = none := by
  unfold stp
  rw [if_neg (by simp), if_pos rfl]
  exact if_neg (by show ¬ mayO Λ t = true; rw [h]; decide)
theorem stp_0 (h : t = 76) : stp (0, l, q, Λ, P) t = some (76, 1, q, Λ, P) := by
  unfold stp
  rw [if_pos rfl]
  exact if_pos h
theorem stp_00 (h : ¬ t = 76) : stp (0, l, q, Λ, P) t = none := by
  unfold stp
  rw [if_pos rfl]
  exact if_neg h
end STP_
theorem le_nI {a b : Nat} (ha : a < 2 ^ 31) (hb : b < 2 ^ 31) : nI a ≤ nI b ↔ a ≤ b := by
  constructor
  · intro h
    rcases Nat.lt_or_ge b a with q | q
    · exact absurd h (Int32.not_le.mpr (nI_lt q ha))
    · exact q
  · intro h; exact nI_le h hb
theorem tkH_1 {f : Nat} {Λ : Lw} (hf : f ≤ 10) : tkH 1 f Λ = if f ≤ 1 then some (lwLe Λ (nI (10 * f))) else none := by
  unfold tkH
  by_cases h : f = 10
  · rw [if_pos h, if_neg (by omega)]
  · rw [if_neg h, if_pos rfl]
    by_cases h1 : f ≤ 1
    · rw [if_pos h1, if_pos ((le_nI (by omega) (by decide)).mpr (by omega))]
    · rw [if_neg h1, if_neg (fun q => by have := (le_nI (by omega) (by decide)).mp q; omega)]
theorem tkH_2 {f a : Nat} {Λ : Lw} (hf : f ≤ 10) (ha : a ≤ 1) (e : lLe Λ = nI (10 * a)) : tkH 2 f Λ = if f ≤ (if a = 1 then 2 else 9) then some (lwLe Λ (nI (10 * a + f))) else none := by
  unfold tkH
  rw [e, nI_add]
  by_cases h : f = 10
  · rw [if_pos h, if_neg (by split <;> omega)]
  · rw [if_neg h, if_neg (by decide), if_pos rfl]
    by_cases h1 : f ≤ (if a = 1 then 2 else 9)
    · rw [if_pos h1, if_pos ((le_nI (by omega) (by decide)).mpr (by split at h1 <;> omega))]
    · rw [if_neg h1, if_neg (fun q => by have := (le_nI (by omega) (by decide)).mp q; split at h1 <;> omega)]
theorem tkH_3 {f l : Nat} {Λ : Lw} (hf : f ≤ 10) (hl : 3 ≤ l) : tkH l f Λ = if f ≤ 4 then some (lwRo Λ (upd (lRo Λ) ((l - 3) % 4) (nI f))) else none := by
  unfold tkH
  by_cases h : f = 10
  · rw [if_pos h, if_neg (by omega)]
  · rw [if_neg h, if_neg (by omega), if_neg (by omega)]
    by_cases h1 : f ≤ 4
    · rw [if_pos h1, if_pos (by omega)]
    · rw [if_neg h1, if_neg (by omega)]
theorem tkD_1 {f : Nat} {Λ : Lw} {P : Pg} (hf : f ≤ 10) (hD : lD Λ < 4) : tkD 1 f Λ P = if f ≤ 4 then some (Λ, upd P (lD Λ) (nI f)) else none := by
  unfold tkD
  by_cases h : f = 10
  · rw [if_pos (Or.inl h), if_neg (by omega)]
  · rw [if_neg (by rintro (q | q); exact h q; omega), if_pos rfl]
    by_cases h1 : f ≤ 4
    · rw [if_pos h1, if_pos (by omega)]
    · rw [if_neg h1, if_neg (by omega)]
theorem tkD_2 {f : Nat} {Λ : Lw} {P : Pg} (hf : f ≤ 10) (hD : lD Λ < 4) : tkD 2 f Λ P = if f ≤ 9 then some (lwRa Λ (upd (lRa Λ) (lD Λ) (nI f)), P) else none := by
  unfold tkD
  by_cases h : f = 10
  · rw [if_pos (Or.inl h), if_neg (by omega)]
  · rw [if_neg (by rintro (q | q); exact h q; omega), if_neg (by decide), if_pos rfl, if_pos (by omega)]
theorem tkD_3 {f : Nat} {Λ : Lw} {P : Pg} (hf : f ≤ 10) (hD : lD Λ < 4) : tkD 3 f Λ P = if 1 ≤ f ∧ f ≤ 3 then some (lwDog Λ (upd (lRm Λ) (lD Λ) (nI f)) (upd (lPa Λ) (lD Λ) no9), P) else none := by
  unfold tkD
  by_cases h : f = 10
  · rw [if_pos (Or.inl h), if_neg (by omega)]
  · rw [if_neg (by rintro (q | q); exact h q; omega), if_neg (by decide), if_neg (by decide)]
theorem upd_at (P : Pg) (k : Nat) (x : Int32) : upd P k x k = x := by simp [upd]
theorem upd_n {P : Pg} {k j : Nat} {x : Int32} (h : j ≠ k) : upd P k x j = P j := by simp only [upd, if_neg h]
theorem XQ_dog {M : Mm} {Λ : Lw} {P : Pg} {a b c : Int32} (h : XQ M Λ P) : XQ (wI (wI (wI (wI (wI M 156 (4 * lD Λ) a) 156 (4 * lD Λ + 1) b) 156 (4 * lD Λ + 2) c) 156 (4 * lD Λ + 3) no9) 150 10 (nI (lD Λ + 1))) (lwDog (lwRa Λ (upd (lRa Λ) (lD Λ) b)) (upd (lRm Λ) (lD Λ) c) (upd (lPa Λ) (lD Λ) no9)) (upd P (lD Λ) a) ∨ 4 ≤ lD Λ := by
  by_cases h4 : 4 ≤ lD Λ
  · exact Or.inr h4
  refine Or.inl ?_
  obtain ⟨⟨h1, h2, h3⟩, h5, h6, h7⟩ := h
  refine ⟨⟨wI_at _ _ _ _, ?_, ?_⟩, fun i hi => ?_, fun d hd => ?_, fun m hm => ?_⟩
  · rw [wI_nk (by decide), wI_na (by decide), wI_na (by decide), wI_na (by decide), wI_na (by decide)]; exact h2
  · rw [wI_nk (by decide), wI_na (by decide), wI_na (by decide), wI_na (by decide), wI_na (by decide)]; exact h3
  · rw [wI_na (by decide), wI_na (by decide), wI_na (by decide), wI_na (by decide), wI_na (by decide)]; exact h5 i hi
  · have hd : d < lD Λ + 1 := hd
    show _ = upd P (lD Λ) a d ∧ _ = upd (lRa Λ) (lD Λ) b d ∧ _ = upd (lRm Λ) (lD Λ) c d ∧ _ = upd (lPa Λ) (lD Λ) no9 d
    by_cases e : d = lD Λ
    · subst e
      rw [upd_at, upd_at, upd_at, upd_at]
      refine ⟨?_, ?_, ?_, ?_⟩
      · rw [wI_na (by decide), wI_nk (by omega), wI_nk (by omega), wI_nk (by omega), wI_at]
      · rw [wI_na (by decide), wI_nk (by omega), wI_nk (by omega), wI_at]
      · rw [wI_na (by decide), wI_nk (by omega), wI_at]
      · rw [wI_na (by decide), wI_at]
    · rw [upd_n e, upd_n e, upd_n e, upd_n e]
      have hd2 : d < lD Λ := by omega
      obtain ⟨g1, g2, g3, g4⟩ := h6 d hd2
      refine ⟨?_, ?_, ?_, ?_⟩
      all_goals rw [wI_na (by decide), wI_nk (by omega), wI_nk (by omega), wI_nk (by omega), wI_nk (by omega)]
      · exact g1
      · exact g2
      · exact g3
      · exact g4
  · have hm : m < lM Λ := hm
    show _ = upd P (lD Λ) a (8 + m) ∧ _ = upd P (lD Λ) a (13 + m) ∧ _ = lSi Λ m
    rw [upd_n (by omega), upd_n (by omega)]
    obtain ⟨g1, g2, g3⟩ := h7 m hm
    refine ⟨?_, ?_, ?_⟩
    all_goals rw [wI_na (by decide), wI_na (by decide), wI_na (by decide), wI_na (by decide), wI_na (by decide)]
    · exact g1
    · exact g2
    · exact g3
theorem pq_upd {pa : Pg} {k x : Nat} (y : Int32) (h : x ≠ k) : pq (upd pa k y) x = pq pa x := by
  unfold pq
  rw [upd_n h]
theorem rtB_dog {q q' : Nat → Nat} {D : Nat} (hD : D < 9) (h : ∀ x, x < D → q' x = q x ∧ (q x = 9 ∨ q x < D)) : ∀ n x, (x = 9 ∨ x < D) → rtB q D n x = true → rtB q' (D + 1) n x = true
  | 0, x, hx, hr => by
    unfold rtB at hr ⊢
    simp only [Bool.not_eq_true', decide_eq_false_iff_not] at hr ⊢
    omega
  | n + 1, x, hx, hr => by
    unfold rtB at hr ⊢
    rcases hx with rfl | hx
    · rw [if_neg (by omega)]
    · rw [if_pos hx] at hr
      rw [if_pos (by omega), (h x hx).1]
      exact rtB_dog hD h n _ (h x hx).2 hr
theorem OkF_dog {Λ : Lw} {P : Pg} {s r k : Nat} (h : OkF Λ P) (hD : lD Λ < 4) (hs : s < 5) (hr : r ≤ 9) (hk : 1 ≤ k ∧ k ≤ 3) : OkF (lwDog (lwRa Λ (upd (lRa Λ) (lD Λ) (nI r))) (upd (lRm Λ) (lD Λ) (nI k)) (upd (lPa Λ) (lD Λ) no9)) (upd P (lD Λ) (nI s)) := by
  obtain ⟨⟨l1, l2, l3, l4, l5, l6⟩, hA, h1, h2, z1, z2, z3, z4⟩ := h
  have hpa : PaOk Λ := fun d hd => (l5 d hd).2.2
  refine ⟨⟨hD, l2, l3, l4, fun d hd => ?_, l6⟩, fun d hd => ?_, fun d hd => ?_, fun m hm => ?_, fun d hd => ?_, fun m hm => ?_, ?_, ?_⟩
  · have hd : d < lD Λ + 1 := hd
    show (∃ r', r' ≤ 9 ∧ upd (lRa Λ) (lD Λ) (nI r) d = nI r') ∧ (∃ r', 1 ≤ r' ∧ r' ≤ 3 ∧ upd (lRm Λ) (lD Λ) (nI k) d = nI r') ∧ (upd (lPa Λ) (lD Λ) no9 d = no9 ∨ ∃ q, q < lD Λ + 1 ∧ upd (lPa Λ) (lD Λ) no9 d = nI q)
    by_cases e : d = lD Λ
    · subst e
      rw [upd_at, upd_at, upd_at]
      exact ⟨⟨r, hr, rfl⟩, ⟨k, hk.1, hk.2, rfl⟩, Or.inl rfl⟩
    · rw [upd_n e, upd_n e, upd_n e]
      obtain ⟨g1, g2, g3⟩ := l5 d (by omega)
      refine ⟨g1, g2, ?_⟩
      rcases g3 with g | ⟨q, hq, g⟩
      · exact Or.inl g
      · exact Or.inr ⟨q, by omega, g⟩
  · have hd : d < lD Λ + 1 := hd
    show rtB (pq (upd (lPa Λ) (lD Λ) no9)) (lD Λ + 1) 4 d = true
    by_cases e : d = lD Λ
    · subst e
      unfold rtB
      rw [if_pos (by omega), show pq (upd (lPa Λ) (lD Λ) no9) (lD Λ) = 9 by unfold pq; rw [upd_at, if_pos rfl]]
      unfold rtB
      rw [if_neg (by omega)]
    · exact rtB_dog (by omega) (fun x hx => ⟨pq_upd no9 (by omega), (pq_ok hpa ⟨l1, l2, trivial⟩ hx).2⟩) 4 d (Or.inr (by omega)) (hA d (by omega))
  · have hd : d < lD Λ + 1 := hd
    by_cases e : d = lD Λ
    · subst e; rw [upd_at]; exact ⟨s, hs, rfl⟩
    · rw [upd_n e]; exact h1 d (by omega)
  · have hm : m < lM Λ := hm
    obtain ⟨g1, g2, g3⟩ := h2 m hm
    rw [upd_n (show 8 + m ≠ lD Λ by omega), upd_n (show 13 + m ≠ lD Λ by omega)]
    refine ⟨?_, g2, fun d hd e => ?_⟩
    · rcases g1 with g | ⟨d, hd, g⟩
      · exact Or.inl g
      · exact Or.inr ⟨d, Nat.lt_succ_of_lt hd, g⟩
    · have hd : d < lD Λ + 1 := hd
      by_cases ed : d = lD Λ
      · subst ed
        rcases g1 with g | ⟨d', hd', g⟩
        · rw [g] at e; exact absurd e.symm (nI_n9 (by omega))
        · rw [g] at e
          have := (nI_eq (by omega) (by omega)).mp e
          omega
      · rw [upd_n ed]; exact g3 d (by omega) e
  · rw [upd_n (by omega)]; exact z1 d hd
  · rw [upd_n (by omega)]; exact z2 m hm
  · rw [upd_n (by omega)]; exact z3
  · rw [upd_n (by omega)]; exact z4
theorem OkF_head {Λ : Lw} {P : Pg} {a : Nat} (hd : lD Λ = 0) (hm : lM Λ = 0) (ha : a ≤ 12) (e : lLe Λ = nI a) (hr : ∀ i, i < 4 → ∃ s, s < 5 ∧ lRo Λ i = nI s) (z : ZP P) : OkF Λ P :=
  ⟨⟨by omega, by omega, ⟨a, ha, e⟩, hr, fun d h => by omega, fun m h => by omega⟩, fun d h => by omega, fun d h => by omega, fun m h => by omega, z⟩
