/-! the reader: its state is a part (0 ahead of all, 1 between parts, else the letter that opened it), a place in it, a dog told as a parent, a law and a page -/
abbrev Rs : Type := Nat × Nat × Nat × Lw × Pg
abbrev lw45 : Lw := (4, 5, 0, fun _ => 0, fun _ => 0, fun _ => 0, fun _ => 0, fun _ => 0)
abbrev lwD (Λ : Lw) (x : Nat) : Lw := (x, lM Λ, lLe Λ, lRo Λ, lRa Λ, lRm Λ, lPa Λ, lSi Λ)
abbrev lwLe (Λ : Lw) (x : Int32) : Lw := (lD Λ, lM Λ, x, lRo Λ, lRa Λ, lRm Λ, lPa Λ, lSi Λ)
abbrev lwRo (Λ : Lw) (x : Pg) : Lw := (lD Λ, lM Λ, lLe Λ, x, lRa Λ, lRm Λ, lPa Λ, lSi Λ)
abbrev lwRa (Λ : Lw) (x : Pg) : Lw := (lD Λ, lM Λ, lLe Λ, lRo Λ, x, lRm Λ, lPa Λ, lSi Λ)
abbrev lwPa (Λ : Lw) (x : Pg) : Lw := (lD Λ, lM Λ, lLe Λ, lRo Λ, lRa Λ, lRm Λ, x, lSi Λ)
abbrev lwDog (Λ : Lw) (r p : Pg) : Lw := (lD Λ + 1, lM Λ, lLe Λ, lRo Λ, lRa Λ, r, p, lSi Λ)
abbrev lwMan (Λ : Lw) (x : Pg) : Lw := (lD Λ, lM Λ + 1, lLe Λ, lRo Λ, lRa Λ, lRm Λ, lPa Λ, x)
def SgB (x : Int32) (n : Nat) (si : Pg) : Prop := ∃ g, x = nI g ∧ g < 2 ^ n ∧ ∀ m, m < n → (g.testBit m = true ↔ si m = nI 1)
def XR (M : Mm) (p l q : Nat) (Λ : Lw) (P : Pg) : Prop := (M.1 2 2 = nI p ∧ M.1 2 3 = nI l ∧ M.1 2 4 = nI q) ∧ (M.1 3 0 = nI (lD Λ) ∧ M.1 3 1 = nI (lM Λ) ∧ M.1 3 2 = lLe Λ) ∧ SgB (M.1 3 3) (lM Λ) (lSi Λ) ∧ ((∀ i, i < 4 → M.1 4 i = lRo Λ i) ∧ (∀ i, i < 4 → M.1 5 i = lRa Λ i) ∧ (∀ i, i < 4 → M.1 6 i = lRm Λ i) ∧ (∀ i, i < 4 → M.1 7 i = lPa Λ i)) ∧ XT M 8 lw45 P
/-- what the reader leaves as it was -/
def Sz (M M' : Mm) : Prop := M'.2 = M.2 ∧ ∀ a, (a < 2 ∨ 14 ≤ a ∨ a = 8 ∨ a = 10 ∨ a = 13) → ∀ k, M'.1 a k = M.1 a k
theorem Sz.rf {M : Mm} : Sz M M := ⟨rfl, fun _ _ _ => rfl⟩
theorem Sz.tr {M M1 M2 : Mm} (h1 : Sz M M1) (h2 : Sz M1 M2) : Sz M M2 := ⟨h2.1.trans h1.1, fun a ha k => (h2.2 a ha k).trans (h1.2 a ha k)⟩
theorem Sz.rs {M M' : Mm} (h : Sz M M') (hR : RS M) : RS M' := hR.of (by rw [h.1])
theorem Sz.sm {M M' : Mm} (h : Sz M M') : Sm 2 14 M M' := ⟨h.1, fun a ha k => h.2 a (by omega) k⟩
theorem Sz.w {M : Mm} {a k : Nat} {x : Int32} (ha : 2 ≤ a ∧ a < 14 ∧ a ≠ 8 ∧ a ≠ 10 ∧ a ≠ 13) : Sz M (wI M a k x) := ⟨rfl, fun b hb j => wI_na (by omega)⟩
theorem w_arr {M : Mm} {a k : Nat} {x : Int32} {f : Pg} {n : Nat} (h : ∀ i, i < n → M.1 a i = f i) : ∀ i, i < n → (wI M a k x).1 a i = upd f k x i := fun i hi => by
  by_cases e : i = k
  · subst e; rw [wI_at]; simp [upd]
  · rw [wI_nk e]; simp [upd, e, h i hi]
theorem w_oth {M : Mm} {a k b : Nat} {x : Int32} {f : Pg} {n : Nat} (hb : b ≠ a) (h : ∀ i, i < n → M.1 b i = f i) : ∀ i, i < n → (wI M a k x).1 b i = f i := fun i hi => (wI_na hb).trans (h i hi)
section XRu
variable {M : Mm} {p l q : Nat} {Λ : Lw} {P : Pg}
theorem XR.XL (h : XR M p l q Λ P) (hL : OkN Λ) : XL M 3 Λ := by
  obtain ⟨h1, ⟨h2, h3, h4⟩, ⟨g, g1, g2, g3⟩, ⟨h5, h6, h7, h8⟩, h9⟩ := h
  have hD := hL.1
  have hM := hL.2.1
  refine ⟨h2, h3, h4, fun m hm => ?_, h5, fun d hd => ⟨h6 d (by omega), h7 d (by omega), h8 d (by omega)⟩⟩
  rw [g1, bat_nI (lt32 g2 hM) (by omega), ← g3 m hm, Nat.testBit_eq_decide_div_mod_eq]
  rw [decide_eq_true_eq]
  exact nI_eq (by omega) (by decide)
theorem XR.XT (h : XR M p l q Λ P) (hL : OkN Λ) : XT M 8 Λ P := by
  obtain ⟨h1, h2, h3, h4⟩ := h.2.2.2.2
  exact ⟨h1, h2, fun d hd => h3 d (Nat.lt_of_lt_of_le hd hL.1), fun m hm => h4 m (Nat.lt_of_lt_of_le hm hL.2.1)⟩
theorem XR.pl {p' l' q' : Nat} {M' : Mm} (h : XR M p l q Λ P) (s : Sm 2 3 M M') (e1 : M'.1 2 2 = nI p') (e2 : M'.1 2 3 = nI l') (e3 : M'.1 2 4 = nI q') : XR M' p' l' q' Λ P := by
  obtain ⟨-, ⟨h2, h3, h4⟩, h5, ⟨h6, h7, h8, h9⟩, h10⟩ := h
  have s3 : ∀ a, 3 ≤ a → ∀ k, M'.1 a k = M.1 a k := fun a ha k => s.2 a (by omega) k
  refine ⟨⟨e1, e2, e3⟩, ⟨(s3 3 (by omega) 0).trans h2, (s3 3 (by omega) 1).trans h3, (s3 3 (by omega) 2).trans h4⟩, by rw [s3 3 (by omega) 3]; exact h5, ⟨fun i hi => (s3 4 (by omega) i).trans (h6 i hi), fun i hi => (s3 5 (by omega) i).trans (h7 i hi), fun i hi => (s3 6 (by omega) i).trans (h8 i hi), fun i hi => (s3 7 (by omega) i).trans (h9 i hi)⟩, h10.sm s (by omega)⟩
theorem XR.le (h : XR M p l q Λ P) (x : Int32) : XR (wI M 3 2 x) p l q (lwLe Λ x) P := by
  obtain ⟨h1, ⟨h2, h3, h4⟩, h5, ⟨h6, h7, h8, h9⟩, h10⟩ := h
  exact ⟨h1, ⟨h2, h3, wI_at _ _ _ _⟩, h5, ⟨h6, h7, h8, h9⟩, h10.sm (lo := 3) (hi := 4) (Sm.w (by omega) (by omega)) (by omega)⟩
theorem XR.ro (h : XR M p l q Λ P) (k : Nat) (x : Int32) : XR (wI M 4 k x) p l q (lwRo Λ (upd (lRo Λ) k x)) P := by
  obtain ⟨h1, h2, h5, ⟨h6, h7, h8, h9⟩, h10⟩ := h
  exact ⟨h1, h2, h5, ⟨w_arr h6, h7, h8, h9⟩, h10.sm (lo := 4) (hi := 5) (Sm.w (by omega) (by omega)) (by omega)⟩
theorem XR.ra (h : XR M p l q Λ P) (k : Nat) (x : Int32) : XR (wI M 5 k x) p l q (lwRa Λ (upd (lRa Λ) k x)) P := by
  obtain ⟨h1, h2, h5, ⟨h6, h7, h8, h9⟩, h10⟩ := h
  exact ⟨h1, h2, h5, ⟨h6, w_arr h7, h8, h9⟩, h10.sm (lo := 5) (hi := 6) (Sm.w (by omega) (by omega)) (by omega)⟩
theorem XR.pa (h : XR M p l q Λ P) (k : Nat) (x : Int32) : XR (wI M 7 k x) p l q (lwPa Λ (upd (lPa Λ) k x)) P := by
  obtain ⟨h1, h2, h5, ⟨h6, h7, h8, h9⟩, h10⟩ := h
  exact ⟨h1, h2, h5, ⟨h6, h7, h8, w_arr h9⟩, h10.sm (lo := 7) (hi := 8) (Sm.w (by omega) (by omega)) (by omega)⟩
theorem XR.dg (h : XR M p l q Λ P) (k : Nat) (x y : Int32) : XR (wI (wI (wI M 6 k x) 7 k y) 3 0 (nI (lD Λ + 1))) p l q (lwDog Λ (upd (lRm Λ) k x) (upd (lPa Λ) k y)) P := by
  obtain ⟨h1, ⟨h2, h3, h4⟩, h5, ⟨h6, h7, h8, h9⟩, h10⟩ := h
  refine ⟨h1, ⟨wI_at _ _ _ _, h3, h4⟩, h5, ⟨h6, h7, w_oth (by decide) (w_oth (by decide) (w_arr h8)), w_oth (by decide) (w_arr (w_oth (by decide) h9))⟩, ?_⟩
  exact h10.sm (lo := 3) (hi := 8) (((Sm.w (by omega) (by omega)).tr (Sm.w (by omega) (by omega))).tr (Sm.w (by omega) (by omega))) (by omega)
theorem XR.pd (h : XR M p l q Λ P) {k : Nat} (hk : k < 4) (x : Int32) : XR (wI M 9 k x) p l q Λ (upd P k x) := by
  obtain ⟨h1, h2, h5, ⟨h6, h7, h8, h9⟩, h10⟩ := h
  exact ⟨h1, h2, h5, ⟨h6, h7, h8, h9⟩, h10.dog (t := 8) ⟨by decide, by decide⟩ hk x⟩
theorem XR.pk (h : XR M p l q Λ P) {k : Nat} (hk : k < 5) (x : Int32) : XR (wI M 11 k x) p l q Λ (upd P (8 + k) x) := by
  obtain ⟨h1, h2, h5, ⟨h6, h7, h8, h9⟩, h10⟩ := h
  exact ⟨h1, h2, h5, ⟨h6, h7, h8, h9⟩, h10.keeper (t := 8) ⟨by decide, by decide⟩ hk x⟩
theorem XR.pm (h : XR M p l q Λ P) {k : Nat} (hk : k < 5) (x : Int32) : XR (wI M 12 k x) p l q Λ (upd P (13 + k) x) := by
  obtain ⟨h1, h2, h5, ⟨h6, h7, h8, h9⟩, h10⟩ := h
  exact ⟨h1, h2, h5, ⟨h6, h7, h8, h9⟩, h10.man (t := 8) ⟨by decide, by decide⟩ hk x⟩
end XRu
/-- a byte's figure; 10: none -/
def fgN (t : Nat) : Nat := if 48 ≤ t ∧ t ≤ 57 then t - 48 else 10
def fgI (f : Nat) : Int32 := if f = 10 then no9 else nI f
theorem fgN_le (t : Nat) : fgN t ≤ 10 := by unfold fgN; split <;> omega
theorem fgI_10 : fgI 10 = no9 := rfl
theorem fgI_n {f : Nat} (h : f ≠ 10) : fgI f = nI f := if_neg h
def mayO (Λ : Lw) (t : Nat) : Bool := if t = 68 then decide (lD Λ < 4) else if t = 77 then decide (lM Λ < 5) else if t = 80 then decide (1 < rootN (lPa Λ) (lD Λ)) else false
def tkH (l f : Nat) (Λ : Lw) : Option Lw := if f = 10 then none else if l = 1 then (if nI (10 * f) ≤ nI 12 then some (lwLe Λ (nI (10 * f))) else none) else if l = 2 then (if lLe Λ + nI f ≤ nI 12 then some (lwLe Λ (lLe Λ + nI f)) else none) else if f < 5 then some (lwRo Λ (upd (lRo Λ) ((l - 3) % 4) (nI f))) else none
def tkD (l f : Nat) (Λ : Lw) (P : Pg) : Option (Lw × Pg) := if f = 10 ∨ 4 ≤ lD Λ then none else if l = 1 then (if f < 5 then some (Λ, upd P (lD Λ) (nI f)) else none) else if l = 2 then some (lwRa Λ (upd (lRa Λ) (lD Λ) (nI f)), P) else if 1 ≤ f ∧ f ≤ 3 then some (lwDog Λ (upd (lRm Λ) (lD Λ) (nI f)) (upd (lPa Λ) (lD Λ) no9), P) else none
def tkM (l t : Nat) (Λ : Lw) (P : Pg) : Option (Lw × Pg) := if 5 ≤ lM Λ then none else if l = 1 then (if t = 45 ∨ (fgN t < lD Λ ∧ nI (pop5 (kepN P (fgN t) (lM Λ))) < lRm Λ (fgN t)) then some (Λ, upd P (8 + lM Λ) (fgI (fgN t))) else none) else if l = 2 then (if (if inD (P (8 + lM Λ)) (lD Λ) = true then fgI (fgN t) = P (P (8 + lM Λ)).toNatClampNeg else fgN t < 5) then some (Λ, upd P (13 + lM Λ) (fgI (fgN t))) else none) else if fgN t ≤ 1 then some (lwMan Λ (upd (lSi Λ) (lM Λ) (nI (fgN t))), P) else none
def tkP (l f q : Nat) (Λ : Lw) : Option (Nat × Lw) := if ¬ f < lD Λ then none else if l = 1 then some (f, Λ) else if q ≠ f ∧ lPa Λ f = no9 ∧ cfN (pq (lPa Λ)) (lD Λ) 4 q f = false then some (q, lwPa Λ (upd (lPa Λ) f (nI q))) else none
theorem c_figure {l : Launch} {K : CtxT} {M : Mm} {t : Nat} (ht : t ≤ 255) : Ci l K 0 mX3_figure [.int (nI t)] M (fun r M' => r = fgI (fgN t) ∧ M' = M) := by
  refine ci_of (L := [some (.int (nI t))]) (by decide +kernel) (Nat.le_of_ble_eq_true rfl) rfl rfl (fun E => ?_)
  refine wp_iload_n (pc := 0) dX3_figure_0 rfl ?_
  refine wp_bipush (pc := 1) (x := nI 48) dX3_figure_1 bp_48 ?_
  refine wp_icmp_lt (pc := 3) 19 dX3_figure_3 (by decide) (fun h3 => ?_) (fun h3 => ?_)
  · have e : fgN t = 10 := by unfold fgN; rw [if_neg (fun q => nI_nlt q.1 (by omega) h3)]
    refine wp_bipush (pc := 19) (x := (-9)) dX3_figure_19 bp_m9 ?_
    refine wf_iret (pc := 21) dX3_figure_21 rfl ?_
    refine ⟨?_, rfl⟩
    rw [e]
    first | rfl | (rw [fgI_n (by omega)])
  · have e1 : 48 ≤ t := by rcases Nat.lt_or_ge t 48 with q | q; exact absurd (nI_lt q (by omega)) h3; exact q
    refine wp_iload_n (pc := 6) dX3_figure_6 rfl ?_
    refine wp_bipush (pc := 7) (x := nI 57) dX3_figure_7 bp_57 ?_
    refine wp_icmp_gt (pc := 9) 19 dX3_figure_9 (by decide) (fun h9 => ?_) (fun h9 => ?_)
    · have e : fgN t = 10 := by unfold fgN; rw [if_neg (fun q => nI_nlt q.2 (by omega) h9)]
      refine wp_bipush (pc := 19) (x := (-9)) dX3_figure_19 bp_m9 ?_
      refine wf_iret (pc := 21) dX3_figure_21 rfl ?_
      refine ⟨?_, rfl⟩
      rw [e]
      first | rfl | (rw [fgI_n (by omega)])
    · have e2 : t ≤ 57 := by rcases Nat.lt_or_ge 57 t with q | q; exact absurd (nI_lt q (by omega)) h9; exact q
      have e : fgN t = t - 48 := by unfold fgN; rw [if_pos ⟨e1, e2⟩]
      refine wp_iload_n (pc := 12) dX3_figure_12 rfl ?_
      refine wp_bipush (pc := 13) (x := nI 48) dX3_figure_13 bp_48 ?_
      refine wp_isub (pc := 15) dX3_figure_15 ?_
      rw [pk_sub (by omega)]
      refine wp_goto (pc := 16) 21 dX3_figure_16 (by decide) ?_
      refine wf_iret (pc := 21) dX3_figure_21 rfl ?_
      refine ⟨?_, rfl⟩
      rw [e]
      first | rfl | (rw [fgI_n (by omega)])
theorem c_isStreet {l : Launch} {K : CtxT} {M : Mm} {x : Int32} : Ci l K 0 mX3_isStreet [.int x] M (fun r M' => r = b2i (inD x 5) ∧ M' = M) := by
  refine ci_of (L := [some (.int x)]) (by decide +kernel) (Nat.le_of_ble_eq_true rfl) rfl rfl (fun E => ?_)
  refine wp_iload_n (pc := 0) dX3_isStreet_0 rfl ?_
  refine wp_if_lt (pc := 1) 13 dX3_isStreet_1 (by decide) (fun h1 => ?_) (fun h1 => ?_)
  · have e : inD x 5 = false := by simpa using in_n1 (n := 5) h1
    refine wp_ic (pc := 13) (x := nI 0) dX3_isStreet_13 ic_0 ?_
    refine wf_zret (pc := 14) (false) dX3_isStreet_14 rfl rfl ?_
    exact ⟨by rw [e], rfl⟩
  · refine wp_iload_n (pc := 4) dX3_isStreet_4 rfl ?_
    refine wp_ic (pc := 5) (x := nI 5) dX3_isStreet_5 ic_5 ?_
    refine wp_icmp_ge (pc := 6) 13 dX3_isStreet_6 (by decide) (fun h6 => ?_) (fun h6 => ?_)
    · have e : inD x 5 = false := by simpa using in_n3 (n := 5) h6
      refine wp_ic (pc := 13) (x := nI 0) dX3_isStreet_13 ic_0 ?_
      refine wf_zret (pc := 14) (false) dX3_isStreet_14 rfl rfl ?_
      exact ⟨by rw [e], rfl⟩
    · have e : inD x 5 = true := in_n4 h1 h6
      refine wp_ic (pc := 9) (x := nI 1) dX3_isStreet_9 ic_1 ?_
      refine wp_goto (pc := 10) 14 dX3_isStreet_10 (by decide) ?_
      refine wf_zret (pc := 14) (true) dX3_isStreet_14 rfl rfl ?_
      exact ⟨by rw [e], rfl⟩
theorem c_opens {l : Launch} {K : CtxT} {M : Mm} {t : Nat} : Ci l K 0 mX3_opens [.ref (K.1 + 2), .int (nI t)] M (fun r M' => r = b2i true ∧ M' = wI (wI M 2 2 (nI t)) 2 3 (nI 1)) := by
  refine ci_of (L := [some (.ref (K.1 + 2)), some (.int (nI t))]) (by decide +kernel) (Nat.le_of_ble_eq_true rfl) rfl rfl (fun E => ?_)
  refine wp_aload_n (pc := 0) dX3_opens_0 rfl ?_
  refine wp_iload_n (pc := 1) dX3_opens_1 rfl ?_
  refine wf_putI (pc := 2) dX3_opens_2 fl_X3_25 lk_2 ?_
  refine wp_aload_n (pc := 5) dX3_opens_5 rfl ?_
  refine wp_ic (pc := 6) (x := nI 1) dX3_opens_6 ic_1 ?_
  refine wf_putI (pc := 7) dX3_opens_7 fl_X3_29 lk_2 ?_
  refine wp_ic (pc := 10) (x := nI 1) dX3_opens_10 ic_1 ?_
  refine wf_zret (pc := 11) (true) dX3_opens_11 rfl rfl ?_
  exact ⟨rfl, rfl⟩
theorem c_goesOn {l : Launch} {K : CtxT} {M : Mm} {p i n : Nat} {b : Bool} (h2 : M.1 2 2 = nI p) (h3 : M.1 2 3 = nI i) (hl : i ≤ 9) (hn : n ≤ 9) : Ci l K 0 mX3_goesOn [.ref (K.1 + 2), .int (b2i b), .int (nI n)] M (fun r M' => r = b2i b ∧ Sm 2 3 M M' ∧ M'.1 2 2 = nI (if i + 1 = n then 1 else p) ∧ M'.1 2 3 = nI (i + 1) ∧ M'.1 2 4 = M.1 2 4) := by
  refine ci_of (L := [some (.ref (K.1 + 2)), some (.int (b2i b)), some (.int (nI n))]) (by decide +kernel) (Nat.le_of_ble_eq_true rfl) rfl rfl (fun E => ?_)
  refine wp_aload_n (pc := 0) dX3_goesOn_0 rfl ?_
  refine wp_dup (pc := 1) dX3_goesOn_1 rfl ?_
  refine wf_getI (pc := 2) dX3_goesOn_2 fl_X3_29 lk_2 ?_
  rw [h3]
  refine wp_ic (pc := 5) (x := nI 1) dX3_goesOn_5 ic_1 ?_
  refine wp_iadd (pc := 6) dX3_goesOn_6 ?_
  refine wp_top (nI (i + 1)) (nI_1 _) ?_
  refine wf_putI (pc := 7) dX3_goesOn_7 fl_X3_29 lk_2 ?_
  refine wp_aload_n (pc := 10) dX3_goesOn_10 rfl ?_
  refine wf_getI (pc := 11) dX3_goesOn_11 fl_X3_29 lk_2 ?_
  rw [show (wI M 2 3 (nI (i + 1))).1 2 3 = nI (i + 1) from wI_at _ _ _ _]
  refine wp_iload_n (pc := 14) dX3_goesOn_14 rfl ?_
  refine wp_icmp_ne (pc := 15) 23 dX3_goesOn_15 (by decide) (fun h15 => ?_) (fun h15 => ?_)
  · have e : ¬ i + 1 = n := fun q => h15 (by rw [q])
    refine wp_iload_n (pc := 23) dX3_goesOn_23 rfl ?_
    refine wf_zret (pc := 24) (_) dX3_goesOn_24 rfl rfl ?_
    refine ⟨rfl, ?_, ?_, ?_, ?_⟩
    · first | exact Sm.w (by omega) (by omega) | exact (Sm.w (by omega) (by omega)).tr (Sm.w (by omega) (by omega))
    · first | (rw [if_neg e]; exact h2) | (rw [if_pos e]; exact wI_at _ _ _ _)
    · first | exact wI_at _ _ _ _ | (exact (wI_nk (by decide)).trans (wI_at _ _ _ _))
    · first | exact wI_nk (by decide) | exact (wI_nk (by decide)).trans (wI_nk (by decide))
  · have e : i + 1 = n := (nI_eq (by omega) (by omega)).mp h15
    refine wp_aload_n (pc := 18) dX3_goesOn_18 rfl ?_
    refine wp_ic (pc := 19) (x := nI 1) dX3_goesOn_19 ic_1 ?_
    refine wf_putI (pc := 20) dX3_goesOn_20 fl_X3_25 lk_2 ?_
    refine wp_iload_n (pc := 23) dX3_goesOn_23 rfl ?_
    refine wf_zret (pc := 24) (_) dX3_goesOn_24 rfl rfl ?_
    refine ⟨rfl, ?_, ?_, ?_, ?_⟩
    · first | exact Sm.w (by omega) (by omega) | exact (Sm.w (by omega) (by omega)).tr (Sm.w (by omega) (by omega))
    · first | (rw [if_neg e]; exact h2) | (rw [if_pos e]; exact wI_at _ _ _ _)
    · first | exact wI_at _ _ _ _ | (exact (wI_nk (by decide)).trans (wI_at _ _ _ _))
    · first | exact wI_nk (by decide) | exact (wI_nk (by decide)).trans (wI_nk (by decide))

