/-! kin: the steps between dogs -/
def qf (a b c e : Nat) : Nat → Nat := fun k => if k = 0 then a else if k = 1 then b else if k = 2 then c else if k = 3 then e else 9
/-- no dog comes from itself -/
def rtB (q : Nat → Nat) (D : Nat) : Nat → Nat → Bool
  | 0, x => !decide (x < D)
  | n + 1, x => if x < D then rtB q D n (q x) else true
def dsq (q : Nat → Nat) (D d x : Nat) : Nat := if dgO q D 4 0 d x = 9 then 9999 else dgO q D 4 0 d x
def allN (n : Nat) (f : Nat → Bool) : Bool := (List.range n).all f
theorem allN_at {n m : Nat} {f : Nat → Bool} (h : allN n f = true) (hm : m < n) : f m = true := List.all_eq_true.mp h m (List.mem_range.mpr hm)
def okq (q : Nat → Nat) (D : Nat) : Bool := allN D (fun k => (decide (q k = 9) || decide (q k < D)) && rtB q D 4 k)
def kinq (q : Nat → Nat) (D : Nat) : Bool := allN D (fun d => allN D (fun x => decide (dsq q D d d = 0) && ((decide (q x = 9) || (decide (dsq q D d x ≤ dsq q D d (q x) + 1) && decide (dsq q D d (q x) ≤ dsq q D d x + 1))) && ((decide (x = d) || decide (dsq q D d x = 9999)) || (decide (1 ≤ dsq q D d x) && (decide (dsq q D d x ≤ 3) && anyN D (fun y => (decide (q x = y) || decide (q y = x)) && decide (dsq q D d y + 1 = dsq q D d x))))))))
def five : List Nat := [0, 1, 2, 3, 9]
theorem kin_all : ([0, 1, 2, 3, 4].all fun D => five.all fun a => five.all fun b => five.all fun c => five.all fun e => !okq (qf a b c e) D || kinq (qf a b c e) D) = true := by decide +kernel
theorem rtB_cg {q q' : Nat → Nat} {D : Nat} (h : ∀ k, k < D → q k = q' k) : ∀ n x, rtB q D n x = rtB q' D n x
  | 0, _ => rfl
  | n + 1, x => by
    unfold rtB
    by_cases hx : x < D
    · rw [if_pos hx, if_pos hx, h x hx, rtB_cg h n]
    · rw [if_neg hx, if_neg hx]
theorem dgI_cg {q q' : Nat → Nat} {D : Nat} (h : ∀ k, k < D → q k = q' k) : ∀ n j u o, dgI q D n j u o = dgI q' D n j u o
  | 0, _, _, _ => rfl
  | n + 1, j, u, o => by
    unfold dgI
    by_cases hx : o < D
    · rw [if_pos hx, if_pos hx, h o hx, dgI_cg h n]
    · rw [if_neg hx, if_neg hx]
theorem dgO_cg {q q' : Nat → Nat} {D : Nat} (h : ∀ k, k < D → q k = q' k) : ∀ n i u o, dgO q D n i u o = dgO q' D n i u o
  | 0, _, _, _ => rfl
  | n + 1, i, u, o => by
    unfold dgO
    by_cases hx : u < D
    · rw [if_pos hx, if_pos hx, h u hx, dgO_cg h n, dgI_cg h]
    · rw [if_neg hx, if_neg hx]
theorem dsq_cg {q q' : Nat → Nat} {D : Nat} (h : ∀ k, k < D → q k = q' k) (d x : Nat) : dsq q D d x = dsq q' D d x := by
  unfold dsq
  rw [dgO_cg h]
def AcL (Λ : Lw) : Prop := ∀ d, d < lD Λ → rtB (pq (lPa Λ)) (lD Λ) 4 d = true
abbrev dsN (Λ : Lw) (d x : Nat) : Nat := dsq (pq (lPa Λ)) (lD Λ) d x
theorem five_of {x D : Nat} (hD : D ≤ 4) (h : x = 9 ∨ x < D) : x ∈ five := by
  have : x = 0 ∨ x = 1 ∨ x = 2 ∨ x = 3 ∨ x = 9 := by omega
  rcases this with rfl | rfl | rfl | rfl | rfl <;> decide
theorem kin_facts {Λ : Lw} (hL : OkL Λ) (hA : AcL Λ) {d x : Nat} (hd : d < lD Λ) (hx : x < lD Λ) : dsN Λ d d = 0 ∧ (pq (lPa Λ) x ≠ 9 → dsN Λ d x ≤ dsN Λ d (pq (lPa Λ) x) + 1 ∧ dsN Λ d (pq (lPa Λ) x) ≤ dsN Λ d x + 1) ∧ (x ≠ d → dsN Λ d x ≠ 9999 → 1 ≤ dsN Λ d x ∧ dsN Λ d x ≤ 3 ∧ ∃ y, y < lD Λ ∧ (pq (lPa Λ) x = y ∨ pq (lPa Λ) y = x) ∧ dsN Λ d y + 1 = dsN Λ d x) := by
  have hD := hL.1
  have hq : ∀ k, k < lD Λ → pq (lPa Λ) k = 9 ∨ pq (lPa Λ) k < lD Λ := fun k hk => (pq_ok hL.pa hL.N hk).2
  unfold AcL at hA
  unfold dsN
  generalize lD Λ = D at *
  generalize pq (lPa Λ) = q at *
  obtain ⟨g, hg⟩ : ∃ g : Nat → Nat, ∀ k, g k = if k < D then q k else 9 := ⟨_, fun _ => rfl⟩
  have g9 : ∀ k, g k = 9 ∨ g k < D := fun k => by
    rw [hg]
    split
    · exact hq k (by assumption)
    · exact Or.inl rfl
  have e : ∀ k, k < D → q k = qf (g 0) (g 1) (g 2) (g 3) k := fun k hk => by
    have e0 : q k = g k := by rw [hg, if_pos hk]
    rw [e0]
    have : k = 0 ∨ k = 1 ∨ k = 2 ∨ k = 3 := by omega
    rcases this with rfl | rfl | rfl | rfl <;> rfl
  have h1 := List.all_eq_true.mp kin_all D (by have : D = 0 ∨ D = 1 ∨ D = 2 ∨ D = 3 ∨ D = 4 := by omega
                                               rcases this with rfl | rfl | rfl | rfl | rfl <;> decide)
  have h2 := List.all_eq_true.mp h1 _ (five_of hD (g9 0))
  have h3 := List.all_eq_true.mp h2 _ (five_of hD (g9 1))
  have h4 := List.all_eq_true.mp h3 _ (five_of hD (g9 2))
  have h5 := List.all_eq_true.mp h4 _ (five_of hD (g9 3))
  generalize qf (g 0) (g 1) (g 2) (g 3) = p at e h5
  have hok : okq p D = true := List.all_eq_true.mpr (fun k hk => by
    have hk := List.mem_range.mp hk
    rw [← rtB_cg e, hA k hk, Bool.and_true, Bool.or_eq_true, decide_eq_true_eq, decide_eq_true_eq, ← e k hk]
    exact hq k hk)
  rw [hok] at h5
  have h6 : kinq p D = true := by simpa using h5
  have h7 := allN_at (allN_at h6 hd) hx
  simp only [Bool.and_eq_true, Bool.or_eq_true, decide_eq_true_eq] at h7
  obtain ⟨f0, f1, f2⟩ := h7
  refine ⟨(dsq_cg e d d).trans f0, fun h9 => ?_, fun hxd h9 => ?_⟩
  · rw [dsq_cg e, dsq_cg e, e x hx]
    rw [e x hx] at h9
    rcases f1 with w | w
    · exact absurd w h9
    · exact w
  · rw [dsq_cg e] at h9 ⊢
    rcases f2 with (w | w) | ⟨w1, w2, w3⟩
    · exact absurd w hxd
    · exact absurd w h9
    · obtain ⟨y, hy, w4⟩ := List.any_eq_true.mp w3
      have hy := List.mem_range.mp hy
      simp only [Bool.and_eq_true, Bool.or_eq_true, decide_eq_true_eq] at w4
      refine ⟨w1, w2, y, hy, ?_, ?_⟩
      · rw [e x hx, e y hy]; exact w4.1
      · rw [dsq_cg e]; exact w4.2
theorem dsN_le (Λ : Lw) (d x : Nat) : dsN Λ d x ≤ 9999 := by
  unfold dsN dsq
  rcases dgO_le (pq (lPa Λ)) (lD Λ) 4 0 d x (by omega) with h | h
  · rw [if_pos h]; omega
  · split <;> omega
/-! steps, made smaller parent by parent -/
def bfL (Λ : Lw) (d : Nat) (S : Nat → Nat) : Prop := ∀ x, x < lD Λ → dsN Λ d x ≤ S x ∧ S x ≤ 9999
def bfU (Λ : Lw) (d r : Nat) (S : Nat → Nat) : Prop := ∀ x, x < lD Λ → dsN Λ d x ≤ r → S x ≤ dsN Λ d x
def bfM (Λ : Lw) (d r k : Nat) (S : Nat → Nat) : Prop := ∀ j, j < k → pq (lPa Λ) j ≠ 9 → (dsN Λ d j ≤ r + 1 → dsN Λ d (pq (lPa Λ) j) + 1 = dsN Λ d j → S j ≤ dsN Λ d j) ∧ (dsN Λ d (pq (lPa Λ) j) ≤ r + 1 → dsN Λ d j + 1 = dsN Λ d (pq (lPa Λ) j) → S (pq (lPa Λ) j) ≤ dsN Λ d (pq (lPa Λ) j))
def mnN (a b : Nat) : Nat := if a + 1 < b then a + 1 else b
def setN (S : Nat → Nat) (k v : Nat) : Nat → Nat := fun x => if x = k then v else S x
theorem bf_step {Λ : Lw} {d r k : Nat} {S : Nat → Nat} (hL : OkL Λ) (hA : AcL Λ) (hd : d < lD Λ) (hk : k < lD Λ) (h9 : pq (lPa Λ) k ≠ 9) (h1 : bfL Λ d S) (h2 : bfU Λ d r S) (h3 : bfM Λ d r k S) : bfL Λ d (setN (setN S k (mnN (S (pq (lPa Λ) k)) (S k))) (pq (lPa Λ) k) (mnN (setN S k (mnN (S (pq (lPa Λ) k)) (S k)) k) (setN S k (mnN (S (pq (lPa Λ) k)) (S k)) (pq (lPa Λ) k)))) ∧ bfU Λ d r (setN (setN S k (mnN (S (pq (lPa Λ) k)) (S k))) (pq (lPa Λ) k) (mnN (setN S k (mnN (S (pq (lPa Λ) k)) (S k)) k) (setN S k (mnN (S (pq (lPa Λ) k)) (S k)) (pq (lPa Λ) k)))) ∧ bfM Λ d r (k + 1) (setN (setN S k (mnN (S (pq (lPa Λ) k)) (S k))) (pq (lPa Λ) k) (mnN (setN S k (mnN (S (pq (lPa Λ) k)) (S k)) k) (setN S k (mnN (S (pq (lPa Λ) k)) (S k)) (pq (lPa Λ) k)))) := by
  have hq : pq (lPa Λ) k < lD Λ := by
    rcases (pq_ok hL.pa hL.N hk).2 with q | q
    · exact absurd q h9
    · exact q
  obtain ⟨p, hp⟩ : ∃ p, pq (lPa Λ) k = p := ⟨_, rfl⟩
  obtain ⟨S1, hS1⟩ : ∃ S1, setN S k (mnN (S p) (S k)) = S1 := ⟨_, rfl⟩
  obtain ⟨S2, hS2⟩ : ∃ S2, setN S1 p (mnN (S1 k) (S1 p)) = S2 := ⟨_, rfl⟩
  rw [hp, hS1, hS2]
  rw [hp] at hq
  obtain ⟨-, f1, -⟩ := kin_facts hL hA hd hk
  obtain ⟨f1, f1'⟩ := f1 h9
  rw [hp] at f1 f1'
  have lk1 := h1 k hk
  have lp1 := h1 p hq
  have a1 : ∀ x, S1 x ≤ S x ∧ (x ≠ k → S1 x = S x) := fun x => by
    rw [← hS1]
    unfold setN mnN
    by_cases e : x = k
    · subst e; rw [if_pos rfl]; exact ⟨by split <;> omega, fun q => absurd rfl q⟩
    · rw [if_neg e]; exact ⟨Nat.le_refl _, fun _ => rfl⟩
  have a2 : S1 k ≤ S p + 1 ∧ dsN Λ d k ≤ S1 k := by
    rw [← hS1]
    unfold setN mnN
    rw [if_pos rfl]
    split <;> omega
  have b1 : ∀ x, S2 x ≤ S1 x ∧ (x ≠ p → S2 x = S1 x) := fun x => by
    rw [← hS2]
    unfold setN mnN
    by_cases e : x = p
    · subst e; rw [if_pos rfl]; exact ⟨by split <;> omega, fun q => absurd rfl q⟩
    · rw [if_neg e]; exact ⟨Nat.le_refl _, fun _ => rfl⟩
  have lo1 : ∀ x, x < lD Λ → dsN Λ d x ≤ S1 x := fun x hx => by
    by_cases e : x = k
    · subst e; exact a2.2
    · rw [(a1 x).2 e]; exact (h1 x hx).1
  have b2 : S2 p ≤ S1 k + 1 ∧ dsN Λ d p ≤ S2 p := by
    have := lo1 p hq
    rw [← hS2]
    unfold setN mnN
    rw [if_pos rfl]
    split <;> omega
  have le : ∀ x, S2 x ≤ S x := fun x => Nat.le_trans (b1 x).1 (a1 x).1
  refine ⟨fun x hx => ⟨?_, Nat.le_trans (le x) (h1 x hx).2⟩, fun x hx hr => Nat.le_trans (le x) (h2 x hx hr), fun j hj hj9 => ?_⟩
  · by_cases e : x = p
    · subst e; exact b2.2
    · rw [(b1 x).2 e]; exact lo1 x hx
  · by_cases e : j = k
    · subst e
      rw [hp]
      refine ⟨fun g1 g2 => ?_, fun g1 g2 => ?_⟩
      · have := h2 p hq (by omega)
        have := (b1 j).1
        omega
      · have := h2 j hk (by omega)
        have := (a1 j).1
        omega
    · obtain ⟨g1, g2⟩ := h3 j (by omega) hj9
      exact ⟨fun w1 w2 => Nat.le_trans (le _) (g1 w1 w2), fun w1 w2 => Nat.le_trans (le _) (g2 w1 w2)⟩
theorem bf_skip {Λ : Lw} {d r k : Nat} {S : Nat → Nat} (h9 : pq (lPa Λ) k = 9) (h3 : bfM Λ d r k S) : bfM Λ d r (k + 1) S := fun j hj hj9 => by
  by_cases e : j = k
  · subst e; exact absurd h9 hj9
  · exact h3 j (by omega) hj9
theorem bf_end {Λ : Lw} {d r : Nat} {S : Nat → Nat} (hL : OkL Λ) (hA : AcL Λ) (hd : d < lD Λ) (hr : r < 4) (h2 : bfU Λ d r S) (h3 : bfM Λ d r (lD Λ) S) : bfU Λ d (r + 1) S := fun x hx hxr => by
  have hD := hL.1
  by_cases e : dsN Λ d x ≤ r
  · exact h2 x hx e
  · have hxd : x ≠ d := fun q => by
      subst q
      have := (kin_facts hL hA hd hd).1
      omega
    obtain ⟨g1, g2, y, hy, g3, g4⟩ := (kin_facts hL hA hd hx).2.2 hxd (by omega)
    rcases g3 with g3 | g3
    · exact (h3 x hx (by omega)).1 hxr (by rw [g3]; exact g4)
    · have := (h3 y hy (by omega)).2
      rw [g3] at this
      exact this hxr g4
theorem bf_eq {Λ : Lw} {d : Nat} {S : Nat → Nat} (hL : OkL Λ) (hA : AcL Λ) (hd : d < lD Λ) (h1 : bfL Λ d S) (h2 : bfU Λ d 4 S) {x : Nat} (hx : x < lD Λ) : S x = dsN Λ d x := by
  have a := h1 x hx
  by_cases e : dsN Λ d x = 9999
  · omega
  · by_cases hxd : x = d
    · subst hxd
      have f0 := (kin_facts hL hA hd hd).1
      have := h2 x hx (by omega)
      omega
    · have f2 := (kin_facts hL hA hd hx).2.2 hxd e
      have := h2 x hx (by omega)
      omega
theorem sub_nI : ∀ a, a < 9 → ∀ c, c < 9 → ((0 < nI a - nI c ↔ c < a) ∧ (nI a - nI c = 0 ↔ a = c)) := by decide +kernel
theorem dg_le8 (Λ : Lw) (d x : Nat) (h : dgO (pq (lPa Λ)) (lD Λ) 4 0 d x ≠ 9) : dgO (pq (lPa Λ)) (lD Λ) 4 0 d x < 9 := by
  rcases dgO_le (pq (lPa Λ)) (lD Λ) 4 0 d x (by omega) with q | q
  · exact absurd q h
  · omega
theorem inh_iff {Λ : Lw} {d o b : Nat} (hb : b < lD Λ) (h1 : dgO (pq (lPa Λ)) (lD Λ) 4 0 d b ≠ 9) (h2 : dgO (pq (lPa Λ)) (lD Λ) 4 0 d o ≠ 9) : inhB Λ d o b = true ↔ dsN Λ d o < dsN Λ d b ∨ (dsN Λ d o = dsN Λ d b ∧ lRa Λ b < lRa Λ o) := by
  have e := sub_nI _ (dg_le8 Λ d b h1) _ (dg_le8 Λ d o h2)
  unfold inhB dsN dsq
  rw [nv_n h1, nv_n h2, if_neg h1, if_neg h2, decide_eq_true hb]
  simp only [Bool.not_true, Bool.false_or, Bool.or_eq_true, Bool.and_eq_true, decide_eq_true_eq]
  rw [e.1, e.2]
  constructor
  · rintro (q | ⟨q1, q2⟩)
    · exact Or.inl q
    · exact Or.inr ⟨q1.symm, q2⟩
  · rintro (q | ⟨q1, q2⟩)
    · exact Or.inl q
    · exact Or.inr ⟨q1.symm, q2⟩
theorem heir_dg (Λ : Lw) (d : Nat) : ∀ o, heirN Λ d o = 9 ∨ (heirN Λ d o < o ∧ dgO (pq (lPa Λ)) (lD Λ) 4 0 d (heirN Λ d o) ≠ 9)
  | 0 => Or.inl rfl
  | o + 1 => by
    unfold heirN
    split
    · rename_i h
      exact Or.inr ⟨Nat.lt_succ_self _, h.2.1⟩
    · rcases heir_dg Λ d o with q | q
      · exact Or.inl q
      · exact Or.inr ⟨by omega, q.2⟩
theorem heir_y {Λ : Lw} {d o : Nat} (h1 : o ≠ d) (h2 : dgO (pq (lPa Λ)) (lD Λ) 4 0 d o ≠ 9) (h3 : inhB Λ d o (heirN Λ d o) = true) : heirN Λ d (o + 1) = o := if_pos ⟨h1, h2, h3⟩
theorem heir_n {Λ : Lw} {d o : Nat} (h : ¬ (o ≠ d ∧ dgO (pq (lPa Λ)) (lD Λ) 4 0 d o ≠ 9 ∧ inhB Λ d o (heirN Λ d o) = true)) : heirN Λ d (o + 1) = heirN Λ d o := if_neg h
