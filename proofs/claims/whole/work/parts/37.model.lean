/-! the reference -/
theorem cmp_lt {x y : Int64} : lg_cmp x y < 0 ↔ x < y := by
  unfold lg_cmp
  by_cases h : x > y
  · rw [if_pos h]
    exact ⟨fun q => absurd q (by decide), fun q => (Int64.lt_irrefl (Int64.lt_trans h q)).elim⟩
  · rw [if_neg h]
    by_cases e : x = y
    · rw [if_pos e]
      exact ⟨fun q => absurd q (by decide), fun q => by subst e; exact (Int64.lt_irrefl q).elim⟩
    · rw [if_neg e]
      exact ⟨fun _ => Int64.lt_of_le_of_ne (Int64.not_lt.mp h) e, fun _ => by decide⟩
theorem cmp_gt {x y : Int64} : 0 < lg_cmp x y ↔ y < x := by
  unfold lg_cmp
  by_cases h : x > y
  · rw [if_pos h]
    exact ⟨fun _ => h, fun _ => by decide⟩
  · rw [if_neg h]
    by_cases e : x = y
    · rw [if_pos e]
      exact ⟨fun q => absurd q (by decide), fun q => absurd q h⟩
    · rw [if_neg e]
      exact ⟨fun q => absurd q (by decide), fun q => absurd q h⟩
theorem long_lt {x y : Int32} : x.toInt64 < y.toInt64 ↔ x < y := by
  rw [Int64.lt_iff_toInt_lt, Int32.lt_iff_toInt_lt, Int32.toInt_toInt64, Int32.toInt_toInt64]
def inB (v a b : Int64) : Bool := !decide (v < a) && !decide (b < v)
theorem inB_rg {x : Int32} {a b : Nat} {A B : Int64} (hA : A = (nI a).toInt64) (hB : B = (nI b).toInt64) : inB x.toInt64 A B = rg a b x := by
  subst hA hB
  unfold inB rg
  rw [decide_eq_decide.mpr long_lt, decide_eq_decide.mpr long_lt]
theorem inB_inD {x : Int32} {n : Nat} {A : Int64} (hA : A = (nI 0).toInt64) (hn : n ≤ 9999) : inB x.toInt64 A (nI n - nI 1).toInt64 = inD x n := by
  subst hA
  unfold inB inD
  have e : (nI n - nI 1).toInt64 < x.toInt64 ↔ nI n ≤ x := by
    rw [long_lt, Int32.lt_iff_toInt_lt, Int32.le_iff_toInt_le, Int32.toInt_sub, nI_toInt (show n < 2 ^ 31 by omega), show (nI 1).toInt = 1 from rfl, Int.bmod_eq_of_le (by omega) (by omega)]
    omega
  rw [decide_eq_decide.mpr e, decide_eq_decide.mpr (long_lt (x := x) (y := nI 0))]
  rfl
theorem c_in {l : Launch} {K : CtxT} {M : Mm} {v a b : Int64} : Ci l K 0 mX9_in [.long v, .long a, .long b] M (fun r M' => r = b2i (inB v a b) ∧ M' = M) := by
  refine ci_of (L := [some (.long v), none, some (.long a), none, some (.long b), none]) (by decide +kernel) (Nat.le_of_ble_eq_true rfl) rfl rfl (fun E => ?_)
  refine wp_lload_n (pc := 0) dX9_in_0 rfl ?_
  refine wp_lload_n (pc := 1) dX9_in_1 rfl ?_
  refine wp_lcmp (pc := 2) dX9_in_2 ?_
  refine wp_if_lt (pc := 3) 17 dX9_in_3 (by decide) (fun h3 => ?_) (fun h3 => ?_)
  · have e : inB v a b = false := by have := cmp_lt.mp h3; simp [inB, this]
    refine wp_ic (pc := 17) (x := nI 0) dX9_in_17 ic_0 ?_
    refine wf_zret (pc := 18) (false) dX9_in_18 rfl rfl ?_
    exact ⟨by rw [e], rfl⟩
  · refine wp_lload_n (pc := 6) dX9_in_6 rfl ?_
    refine wp_lload (pc := 7) dX9_in_7 rfl ?_
    refine wp_lcmp (pc := 9) dX9_in_9 ?_
    refine wp_if_gt (pc := 10) 17 dX9_in_10 (by decide) (fun h10 => ?_) (fun h10 => ?_)
    · have e : inB v a b = false := by have := cmp_gt.mp h10; simp [inB, this]
      refine wp_ic (pc := 17) (x := nI 0) dX9_in_17 ic_0 ?_
      refine wf_zret (pc := 18) (false) dX9_in_18 rfl rfl ?_
      exact ⟨by rw [e], rfl⟩
    · have e : inB v a b = true := by have w1 : ¬ v < a := fun q => h3 (cmp_lt.mpr q); have w2 : ¬ b < v := fun q => h10 (cmp_gt.mpr q); simp [inB, w1, w2]
      refine wp_ic (pc := 13) (x := nI 1) dX9_in_13 ic_1 ?_
      refine wp_goto (pc := 14) 18 dX9_in_14 (by decide) ?_
      refine wf_zret (pc := 18) (true) dX9_in_18 rfl rfl ?_
      exact ⟨by rw [e], rfl⟩
theorem c_inR {l : Launch} {K : CtxT} {M : Mm} {x : Int32} {A B : Int64} (a b : Nat) (hA : A = (nI a).toInt64) (hB : B = (nI b).toInt64) : Ci l K 0 mX9_in [.long x.toInt64, .long A, .long B] M (fun r M' => r = b2i (rg a b x) ∧ M' = M) := by
  have := c_in (l := l) (K := K) (M := M) (v := x.toInt64) (a := A) (b := B)
  rwa [inB_rg hA hB] at this
theorem c_inD {l : Launch} {K : CtxT} {M : Mm} {x : Int32} {n : Nat} {A : Int64} (hA : A = (nI 0).toInt64) (hn : n ≤ 9999) : Ci l K 0 mX9_in [.long x.toInt64, .long A, .long (nI n - nI 1).toInt64] M (fun r M' => r = b2i (inD x n) ∧ M' = M) := by
  have := c_in (l := l) (K := K) (M := M) (v := x.toInt64) (a := A) (b := (nI n - nI 1).toInt64)
  rwa [inB_inD hA hn] at this
theorem c_has {l : Launch} {K : CtxT} {M : Mm} {x : Int32} {k : Nat} : Ci l K 0 mX9_has [.int x, .int (nI k)] M (fun r M' => r = b2i (decide (bat x k = nI 1)) ∧ M' = M) := by
  refine ci_of (L := [some (.int x), some (.int (nI k))]) (by decide +kernel) (Nat.le_of_ble_eq_true rfl) rfl rfl (fun E => ?_)
  refine wp_iload_n (pc := 0) dX9_has_0 rfl ?_
  refine wp_iload_n (pc := 1) dX9_has_1 rfl ?_
  refine wp_ishr (pc := 2) dX9_has_2 ?_
  refine wp_ic (pc := 3) (x := nI 1) dX9_has_3 ic_1 ?_
  refine wp_iand (pc := 4) dX9_has_4 ?_
  refine wp_ic (pc := 5) (x := nI 1) dX9_has_5 ic_1 ?_
  refine wp_icmp_ne (pc := 6) 13 dX9_has_6 (by decide) (fun h6 => ?_) (fun h6 => ?_)
  · have e : decide (bat x k = nI 1) = false := decide_eq_false h6
    refine wp_ic (pc := 13) (x := nI 0) dX9_has_13 ic_0 ?_
    refine wf_zret (pc := 14) (false) dX9_has_14 rfl rfl ?_
    exact ⟨by rw [e], rfl⟩
  · have e : decide (bat x k = nI 1) = true := decide_eq_true h6
    refine wp_ic (pc := 9) (x := nI 1) dX9_has_9 ic_1 ?_
    refine wp_goto (pc := 10) 14 dX9_has_10 (by decide) ?_
    refine wf_zret (pc := 14) (true) dX9_has_14 rfl rfl ?_
    exact ⟨by rw [e], rfl⟩
/-- a law in the reference -/
def XW (M : Mm) (Λ : Lw) : Prop := M.1 150 4 = nI (lD Λ) ∧ M.1 150 5 = nI (lM Λ) ∧ M.1 150 6 = lLe Λ ∧ (∀ i, i < 4 → M.1 152 i = lRo Λ i) ∧ (∀ d, d < lD Λ → M.1 153 (4 * d + 1) = lRa Λ d ∧ M.1 153 (4 * d + 2) = lRm Λ d ∧ M.1 153 (4 * d + 3) = lPa Λ d) ∧ ∀ m, m < lM Λ → M.1 154 (3 * m + 2) = lSi Λ m
theorem XW.si {M M' : Mm} {lo hi : Nat} {Λ : Lw} (h : XW M Λ) (s : Si lo hi M M') (ho : 155 ≤ lo ∨ hi ≤ 150) : XW M' Λ := by
  unfold XW
  obtain ⟨h1, h2, h3, h4, h5, h6⟩ := h
  have e : ∀ a, a = 150 ∨ a = 152 ∨ a = 153 ∨ a = 154 → ∀ k, M'.1 a k = M.1 a k := fun a ha k => s a (by omega) k
  refine ⟨(e _ (by simp) _).trans h1, (e _ (by simp) _).trans h2, (e _ (by simp) _).trans h3, fun i hi => (e _ (by simp) _).trans (h4 i hi), fun d hd => ?_, fun m hm => (e _ (by simp) _).trans (h6 m hm)⟩
  rw [e 153 (by simp), e 153 (by simp), e 153 (by simp)]
  exact h5 d hd
theorem MT.si {M M' : Mm} {lo hi p o : Nat} {P : Pg} (h : MT M p o P) (s : Si lo hi M M') (ho : p < lo ∨ hi ≤ p) : MT M' p o P := fun j hj => (s p (by omega) _).trans (h j hj)
theorem c_noDog {l : Launch} {K : CtxT} {M : Mm} {Λ : Lw} (hR : RS M) (hL : OkN Λ) (hw : XW M Λ) {x : Int32} : Ci l K 1 mX9_noDog [.ref (K.1 + 150), .int x] M (fun r M' => r = b2i (!inD x (lD Λ)) ∧ M' = M) := by
  refine ci_of (L := [some (.ref (K.1 + 150)), some (.int x)]) (by decide +kernel) (Nat.le_of_ble_eq_true rfl) rfl rfl (fun E => ?_)
  refine wp_iload_n (pc := 0) dX9_noDog_0 rfl ?_
  refine wp_i2l (pc := 1) dX9_noDog_1 ?_
  refine wp_lconst (pc := 2) dX9_noDog_2 rfl ?_
  refine wp_aload_n (pc := 3) dX9_noDog_3 rfl ?_
  refine wf_getI (pc := 4) dX9_noDog_4 fl_X9_69 lk_150 ?_
  rw [hw.1]
  refine wp_ic (pc := 7) (x := nI 1) dX9_noDog_7 ic_1 ?_
  refine wp_isub (pc := 8) dX9_noDog_8 ?_
  refine wp_i2l (pc := 9) dX9_noDog_9 ?_
  refine wf_callSi (pc := 10) dX9_noDog_10 cl_X9_72 (c_inD rfl (show lD Λ ≤ 9999 by have := hL.1; omega)) rfl rfl (Nat.le_of_ble_eq_true rfl) (by decide) ⟨Nat.le_refl _, Nat.le_refl _⟩ (fun r10 M10 q10 => ?_)
  rw [q10.1, q10.2]
  refine wp_if_ne (pc := 13) 20 dX9_noDog_13 (by decide) (fun h13 => ?_) (fun h13 => ?_)
  · have h13 := b2i_1 h13
    refine wp_ic (pc := 20) (x := nI 0) dX9_noDog_20 ic_0 ?_
    refine wf_zret (pc := 21) (false) dX9_noDog_21 rfl rfl ?_
    exact ⟨by rw [h13]; rfl, rfl⟩
  · have h13 := b2i_0 h13
    refine wp_ic (pc := 16) (x := nI 1) dX9_noDog_16 ic_1 ?_
    refine wp_goto (pc := 17) 21 dX9_noDog_17 (by decide) ?_
    refine wf_zret (pc := 21) (true) dX9_noDog_21 rfl rfl ?_
    exact ⟨by rw [h13]; rfl, rfl⟩
theorem c_noMan {l : Launch} {K : CtxT} {M : Mm} {Λ : Lw} (hR : RS M) (hL : OkN Λ) (hw : XW M Λ) {x : Int32} : Ci l K 1 mX9_noMan [.ref (K.1 + 150), .int x] M (fun r M' => r = b2i (!inD x (lM Λ)) ∧ M' = M) := by
  refine ci_of (L := [some (.ref (K.1 + 150)), some (.int x)]) (by decide +kernel) (Nat.le_of_ble_eq_true rfl) rfl rfl (fun E => ?_)
  refine wp_iload_n (pc := 0) dX9_noMan_0 rfl ?_
  refine wp_i2l (pc := 1) dX9_noMan_1 ?_
  refine wp_lconst (pc := 2) dX9_noMan_2 rfl ?_
  refine wp_aload_n (pc := 3) dX9_noMan_3 rfl ?_
  refine wf_getI (pc := 4) dX9_noMan_4 fl_X9_76 lk_150 ?_
  rw [hw.2.1]
  refine wp_ic (pc := 7) (x := nI 1) dX9_noMan_7 ic_1 ?_
  refine wp_isub (pc := 8) dX9_noMan_8 ?_
  refine wp_i2l (pc := 9) dX9_noMan_9 ?_
  refine wf_callSi (pc := 10) dX9_noMan_10 cl_X9_72 (c_inD rfl (show lM Λ ≤ 9999 by have := hL.2.1; omega)) rfl rfl (Nat.le_of_ble_eq_true rfl) (by decide) ⟨Nat.le_refl _, Nat.le_refl _⟩ (fun r10 M10 q10 => ?_)
  rw [q10.1, q10.2]
  refine wp_if_ne (pc := 13) 20 dX9_noMan_13 (by decide) (fun h13 => ?_) (fun h13 => ?_)
  · have h13 := b2i_1 h13
    refine wp_ic (pc := 20) (x := nI 0) dX9_noMan_20 ic_0 ?_
    refine wf_zret (pc := 21) (false) dX9_noMan_21 rfl rfl ?_
    exact ⟨by rw [h13]; rfl, rfl⟩
  · have h13 := b2i_0 h13
    refine wp_ic (pc := 16) (x := nI 1) dX9_noMan_16 ic_1 ?_
    refine wp_goto (pc := 17) 21 dX9_noMan_17 (by decide) ?_
    refine wf_zret (pc := 21) (true) dX9_noMan_21 rfl rfl ?_
    exact ⟨by rw [h13]; rfl, rfl⟩
theorem c_keeps {l : Launch} {K : CtxT} {M : Mm} {Λ : Lw} (hR : RS M) (hL : OkN Λ) (hw : XW M Λ) {p : Nat} (hpl : lk p = (9, 25)) {P : Pg} (hP : MT M p 0 P) {d : Nat} (hd : d < 2 ^ 31) : Ci l K 0 mX9_keeps [.ref (K.1 + 150), .ref (K.1 + p), .int (nI d)] M (fun r M' => r = nI (kepN P d (lM Λ)) ∧ M' = M) := by
  refine ci_of (L := [some (.ref (K.1 + 150)), some (.ref (K.1 + p)), some (.int (nI d)), none, none]) (by decide +kernel) (Nat.le_of_ble_eq_true rfl) rfl rfl (fun E => ?_)
  have hM := hL.2.1
  have loop : ∀ (n m : Nat), n = lM Λ - m → m ≤ lM Λ → Wp E K mX9_keeps 0 (0, 0) 5 [some (.ref (K.1 + 150)), some (.ref (K.1 + p)), some (.int (nI d)), some (.int (nI (kepN P d m))), some (.int (nI m))] [] 168 M 0 0 (zI E K (fun r M' => r = nI (kepN P d (lM Λ)) ∧ M' = M)) := by
    intro n
    induction n with
    | zero =>
      intro m hn hm
      refine wp_iload (pc := 5) dX9_keeps_5 rfl ?_
      refine wp_aload_n (pc := 7) dX9_keeps_7 rfl ?_
      refine wf_getI (pc := 8) dX9_keeps_8 fl_X9_76 lk_150 ?_
      rw [hw.2.1]
      refine wp_icmp_ge (pc := 11) 42 dX9_keeps_11 (by decide) (fun h11 => ?_) (fun h11 => ?_)
      · have e : m = lM Λ := by omega
        subst e
        refine wp_iload_n (pc := 42) dX9_keeps_42 rfl ?_
        refine wf_iret (pc := 43) dX9_keeps_43 rfl ?_
        exact ⟨rfl, rfl⟩
      · exact absurd (nI_le (by omega) (by omega)) h11
    | succ n ih =>
      intro m hn hm
      refine wp_iload (pc := 5) dX9_keeps_5 rfl ?_
      refine wp_aload_n (pc := 7) dX9_keeps_7 rfl ?_
      refine wf_getI (pc := 8) dX9_keeps_8 fl_X9_76 lk_150 ?_
      rw [hw.2.1]
      refine wp_icmp_ge (pc := 11) 42 dX9_keeps_11 (by decide) (fun h11 => ?_) (fun h11 => ?_)
      · exact absurd h11 (nI_ge (by omega) (by omega))
      · refine wp_iload_n (pc := 14) dX9_keeps_14 rfl ?_
        refine wp_aload_n (pc := 15) dX9_keeps_15 rfl ?_
        refine wp_bipush (pc := 16) (x := nI 8) dX9_keeps_16 bp_8 ?_
        refine wp_iload (pc := 18) dX9_keeps_18 rfl ?_
        refine wp_iadd (pc := 20) dX9_keeps_20 ?_
        refine wf_iald (pc := 21) (j := (8 + m)) dX9_keeps_21 hpl (nI_add _ _) (by omega) ?_
        rw [show M.1 p (8 + m) = P (8 + m) by have := hP (8 + m) (by omega); rwa [Nat.zero_add] at this]
        refine wp_iload_n (pc := 22) dX9_keeps_22 rfl ?_
        refine wp_icmp_ne (pc := 23) 33 dX9_keeps_23 (by decide) (fun h23 => ?_) (fun h23 => ?_)
        · have e : kepN P d (m + 1) = kepN P d m := by show (if P (8 + m) = nI d then _ else _) = _; rw [if_neg h23]
          refine wp_ic (pc := 33) (x := nI 0) dX9_keeps_33 ic_0 ?_
          refine wp_ior (pc := 34) dX9_keeps_34 ?_
          refine wp_istore_n (pc := 35) (L' := [_, _, _, _, _]) dX9_keeps_35 (Nat.le_of_ble_eq_true rfl) rfl rfl ?_
          refine wp_iinc1 (pc := 36) (L' := [_, _, _, _, _]) dX9_keeps_36 rfl rfl rfl ?_
          refine wp_goto (pc := 39) 5 dX9_keeps_39 (by decide) ?_
          have := ih (m + 1) (by omega) (by omega)
          rw [e] at this
          first | (rw [or_bit (show m < 5 by omega)]; exact this) | (rw [or_nI, Nat.or_zero]; exact this)
        · have e : kepN P d (m + 1) = kepN P d m ||| 2 ^ m := by show (if P (8 + m) = nI d then _ else _) = _; rw [if_pos h23]
          refine wp_ic (pc := 26) (x := nI 1) dX9_keeps_26 ic_1 ?_
          refine wp_iload (pc := 27) dX9_keeps_27 rfl ?_
          refine wp_ishl (pc := 29) dX9_keeps_29 ?_
          refine wp_goto (pc := 30) 34 dX9_keeps_30 (by decide) ?_
          refine wp_ior (pc := 34) dX9_keeps_34 ?_
          refine wp_istore_n (pc := 35) (L' := [_, _, _, _, _]) dX9_keeps_35 (Nat.le_of_ble_eq_true rfl) rfl rfl ?_
          refine wp_iinc1 (pc := 36) (L' := [_, _, _, _, _]) dX9_keeps_36 rfl rfl rfl ?_
          refine wp_goto (pc := 39) 5 dX9_keeps_39 (by decide) ?_
          have := ih (m + 1) (by omega) (by omega)
          rw [e] at this
          first | (rw [or_bit (show m < 5 by omega)]; exact this) | (rw [or_nI, Nat.or_zero]; exact this)
  refine wp_ic (pc := 0) (x := nI 0) dX9_keeps_0 ic_0 ?_
  refine wp_istore_n (pc := 1) (L' := [_, _, _, _, _]) dX9_keeps_1 (Nat.le_of_ble_eq_true rfl) rfl rfl ?_
  refine wp_ic (pc := 2) (x := nI 0) dX9_keeps_2 ic_0 ?_
  refine wp_istore (pc := 3) (L' := [_, _, _, _, _]) dX9_keeps_3 (Nat.le_of_ble_eq_true rfl) rfl rfl ?_
  exact loop (lM Λ) 0 (by omega) (by omega)
/-- how many of the first k bits -/
def popN (a : Nat) : Nat → Nat
  | 0 => 0
  | k + 1 => popN a k + a / 2 ^ k % 2
theorem popN_5 {a : Nat} (ha : a < 32) : popN a 5 = pop5 a := by
  have e : ∀ a, a < 32 → popN a 5 = pop5 a := by decide +kernel
  exact e a ha
theorem c_many {l : Launch} {K : CtxT} {M : Mm} {a : Nat} (ha : a < 32) : Ci l K 0 mX9_many [.int (nI a)] M (fun r M' => r = nI (pop5 a) ∧ M' = M) := by
  refine ci_of (L := [some (.int (nI a)), none, none]) (by decide +kernel) (Nat.le_of_ble_eq_true rfl) rfl rfl (fun E => ?_)
  have loop : ∀ (n k : Nat), n = 5 - k → k ≤ 5 → Wp E K mX9_many 0 (0, 0) 4 [some (.int (nI a)), some (.int (nI (popN a k))), some (.int (nI k))] [] 168 M 0 0 (zI E K (fun r M' => r = nI (pop5 a) ∧ M' = M)) := by
    intro n
    induction n with
    | zero =>
      intro k hn hm
      refine wp_iload_n (pc := 4) dX9_many_4 rfl ?_
      refine wp_ic (pc := 5) (x := nI 5) dX9_many_5 ic_5 ?_
      refine wp_icmp_ge (pc := 6) 23 dX9_many_6 (by decide) (fun h6 => ?_) (fun h6 => ?_)
      · have e : k = 5 := by omega
        subst e
        refine wp_iload_n (pc := 23) dX9_many_23 rfl ?_
        refine wf_iret (pc := 24) dX9_many_24 rfl ?_
        exact ⟨by rw [popN_5 ha], rfl⟩
      · exact absurd (nI_le (by omega) (by omega)) h6
    | succ n ih =>
      intro k hn hm
      refine wp_iload_n (pc := 4) dX9_many_4 rfl ?_
      refine wp_ic (pc := 5) (x := nI 5) dX9_many_5 ic_5 ?_
      refine wp_icmp_ge (pc := 6) 23 dX9_many_6 (by decide) (fun h6 => ?_) (fun h6 => ?_)
      · exact absurd h6 (nI_ge (by omega) (by omega))
      · refine wp_iload_n (pc := 9) dX9_many_9 rfl ?_
        refine wp_iload_n (pc := 10) dX9_many_10 rfl ?_
        refine wp_iload_n (pc := 11) dX9_many_11 rfl ?_
        refine wp_ishr (pc := 12) dX9_many_12 ?_
        refine wp_ic (pc := 13) (x := nI 1) dX9_many_13 ic_1 ?_
        refine wp_iand (pc := 14) dX9_many_14 ?_
        refine wp_iadd (pc := 15) dX9_many_15 ?_
        refine wp_top (nI (popN a (k + 1))) (by show nI (popN a k) + bat (nI a) k = nI (popN a k + a / 2 ^ k % 2); rw [bat_nI ha (by omega), nI_add]) ?_
        refine wp_istore_n (pc := 16) (L' := [_, _, _]) dX9_many_16 (Nat.le_of_ble_eq_true rfl) rfl rfl ?_
        refine wp_iinc1 (pc := 17) (L' := [_, _, _]) dX9_many_17 rfl rfl rfl ?_
        refine wp_goto (pc := 20) 4 dX9_many_20 (by decide) ?_
        exact ih (k + 1) (by omega) (by omega)
  refine wp_ic (pc := 0) (x := nI 0) dX9_many_0 ic_0 ?_
  refine wp_istore_n (pc := 1) (L' := [_, _, _]) dX9_many_1 (Nat.le_of_ble_eq_true rfl) rfl rfl ?_
  refine wp_ic (pc := 2) (x := nI 0) dX9_many_2 ic_0 ?_
  refine wp_istore_n (pc := 3) (L' := [_, _, _]) dX9_many_3 (Nat.le_of_ble_eq_true rfl) rfl rfl ?_
  exact loop 5 0 (by omega) (by omega)
theorem c_bonesOf {l : Launch} {K : CtxT} {M : Mm} {p : Nat} (hpl : lk p = (9, 25)) {P : Pg} (hP : MT M p 0 P) : Ci l K 0 mX9_bonesOf [.ref (K.1 + p)] M (fun r M' => r = sumB P 4 ∧ M' = M) := by
  refine ci_of (L := [some (.ref (K.1 + p)), none, none]) (by decide +kernel) (Nat.le_of_ble_eq_true rfl) rfl rfl (fun E => ?_)
  have loop : ∀ (n k : Nat), n = 4 - k → k ≤ 4 → Wp E K mX9_bonesOf 0 (0, 0) 4 [some (.ref (K.1 + p)), some (.int (sumB P k)), some (.int (nI k))] [] 168 M 0 0 (zI E K (fun r M' => r = sumB P 4 ∧ M' = M)) := by
    intro n
    induction n with
    | zero =>
      intro k hn hm
      refine wp_iload_n (pc := 4) dX9_bonesOf_4 rfl ?_
      refine wp_ic (pc := 5) (x := nI 4) dX9_bonesOf_5 ic_4 ?_
      refine wp_icmp_ge (pc := 6) 23 dX9_bonesOf_6 (by decide) (fun h6 => ?_) (fun h6 => ?_)
      · have e : k = 4 := by omega
        subst e
        refine wp_iload_n (pc := 23) dX9_bonesOf_23 rfl ?_
        refine wf_iret (pc := 24) dX9_bonesOf_24 rfl ?_
        exact ⟨rfl, rfl⟩
      · exact absurd (nI_le (by omega) (by omega)) h6
    | succ n ih =>
      intro k hn hm
      refine wp_iload_n (pc := 4) dX9_bonesOf_4 rfl ?_
      refine wp_ic (pc := 5) (x := nI 4) dX9_bonesOf_5 ic_4 ?_
      refine wp_icmp_ge (pc := 6) 23 dX9_bonesOf_6 (by decide) (fun h6 => ?_) (fun h6 => ?_)
      · exact absurd h6 (nI_ge (by omega) (by omega))
      · refine wp_iload_n (pc := 9) dX9_bonesOf_9 rfl ?_
        refine wp_aload_n (pc := 10) dX9_bonesOf_10 rfl ?_
        refine wp_ic (pc := 11) (x := nI 4) dX9_bonesOf_11 ic_4 ?_
        refine wp_iload_n (pc := 12) dX9_bonesOf_12 rfl ?_
        refine wp_iadd (pc := 13) dX9_bonesOf_13 ?_
        refine wf_iald (pc := 14) (j := (4 + k)) dX9_bonesOf_14 hpl (nI_add _ _) (by omega) ?_
        rw [show M.1 p (4 + k) = P (4 + k) by have := hP (4 + k) (by omega); rwa [Nat.zero_add] at this]
        refine wp_iadd (pc := 15) dX9_bonesOf_15 ?_
        refine wp_istore_n (pc := 16) (L' := [_, _, _]) dX9_bonesOf_16 (Nat.le_of_ble_eq_true rfl) rfl rfl ?_
        refine wp_iinc1 (pc := 17) (L' := [_, _, _]) dX9_bonesOf_17 rfl rfl rfl ?_
        refine wp_goto (pc := 20) 4 dX9_bonesOf_20 (by decide) ?_
        exact ih (k + 1) (by omega) (by omega)
  refine wp_ic (pc := 0) (x := nI 0) dX9_bonesOf_0 ic_0 ?_
  refine wp_istore_n (pc := 1) (L' := [_, _, _]) dX9_bonesOf_1 (Nat.le_of_ble_eq_true rfl) rfl rfl ?_
  refine wp_ic (pc := 2) (x := nI 0) dX9_bonesOf_2 ic_0 ?_
  refine wp_istore_n (pc := 3) (L' := [_, _, _]) dX9_bonesOf_3 (Nat.le_of_ble_eq_true rfl) rfl rfl ?_
  exact loop 4 0 (by omega) (by omega)
theorem c_impoundedR {l : Launch} {K : CtxT} {M : Mm} {Λ : Lw} (hR : RS M) (hL : OkN Λ) (hw : XW M Λ) {P : Pg} (hP : MT M 158 0 P) : Ci l K 0 mX9_impounded [.ref (K.1 + 150)] M (fun r M' => r = nI (impN P (lM Λ)) ∧ M' = M) := by
  refine ci_of (L := [some (.ref (K.1 + 150)), none, none]) (by decide +kernel) (Nat.le_of_ble_eq_true rfl) rfl rfl (fun E => ?_)
  have hM := hL.2.1
  have loop : ∀ (n m : Nat), n = lM Λ - m → m ≤ lM Λ → Wp E K mX9_impounded 0 (0, 0) 4 [some (.ref (K.1 + 150)), some (.int (nI (impN P m))), some (.int (nI m))] [] 168 M 0 0 (zI E K (fun r M' => r = nI (impN P (lM Λ)) ∧ M' = M)) := by
    intro n
    induction n with
    | zero =>
      intro m hn hm
      refine wp_iload_n (pc := 4) dX9_impounded_4 rfl ?_
      refine wp_aload_n (pc := 5) dX9_impounded_5 rfl ?_
      refine wf_getI (pc := 6) dX9_impounded_6 fl_X9_76 lk_150 ?_
      rw [hw.2.1]
      refine wp_icmp_ge (pc := 9) 40 dX9_impounded_9 (by decide) (fun h9 => ?_) (fun h9 => ?_)
      · have e : m = lM Λ := by omega
        subst e
        refine wp_iload_n (pc := 40) dX9_impounded_40 rfl ?_
        refine wf_iret (pc := 41) dX9_impounded_41 rfl ?_
        exact ⟨rfl, rfl⟩
      · exact absurd (nI_le (by omega) (by omega)) h9
    | succ n ih =>
      intro m hn hm
      refine wp_iload_n (pc := 4) dX9_impounded_4 rfl ?_
      refine wp_aload_n (pc := 5) dX9_impounded_5 rfl ?_
      refine wf_getI (pc := 6) dX9_impounded_6 fl_X9_76 lk_150 ?_
      rw [hw.2.1]
      refine wp_icmp_ge (pc := 9) 40 dX9_impounded_9 (by decide) (fun h9 => ?_) (fun h9 => ?_)
      · exact absurd h9 (nI_ge (by omega) (by omega))
      · refine wp_iload_n (pc := 12) dX9_impounded_12 rfl ?_
        refine wp_aload_n (pc := 13) dX9_impounded_13 rfl ?_
        refine wf_getR (pc := 14) dX9_impounded_14 fl_X9_35 lk_150 (hR 150 16 158 rfl) ?_
        refine wp_bipush (pc := 17) (x := nI 19) dX9_impounded_17 bp_19 ?_
        refine wp_iload_n (pc := 19) dX9_impounded_19 rfl ?_
        refine wp_iadd (pc := 20) dX9_impounded_20 ?_
        refine wf_iald (pc := 21) (j := (19 + m)) dX9_impounded_21 lk_158 (nI_add _ _) (by omega) ?_
        rw [show M.1 158 (19 + m) = P (19 + m) by have := hP (19 + m) (by omega); rwa [Nat.zero_add] at this]
        refine wp_if_le (pc := 22) 31 dX9_impounded_22 (by decide) (fun h22 => ?_) (fun h22 => ?_)
        · have e : impN P (m + 1) = impN P m := by show (if 0 < P (19 + m) then _ else _) = _; rw [if_neg (Int32.not_lt.mpr h22)]
          refine wp_ic (pc := 31) (x := nI 0) dX9_impounded_31 ic_0 ?_
          refine wp_ior (pc := 32) dX9_impounded_32 ?_
          refine wp_istore_n (pc := 33) (L' := [_, _, _]) dX9_impounded_33 (Nat.le_of_ble_eq_true rfl) rfl rfl ?_
          refine wp_iinc1 (pc := 34) (L' := [_, _, _]) dX9_impounded_34 rfl rfl rfl ?_
          refine wp_goto (pc := 37) 4 dX9_impounded_37 (by decide) ?_
          have := ih (m + 1) (by omega) (by omega)
          rw [e] at this
          first | (rw [or_bit (show m < 5 by omega)]; exact this) | (rw [or_nI, Nat.or_zero]; exact this)
        · have e : impN P (m + 1) = impN P m ||| 2 ^ m := by show (if 0 < P (19 + m) then _ else _) = _; rw [if_pos (Int32.not_le.mp h22)]
          refine wp_ic (pc := 25) (x := nI 1) dX9_impounded_25 ic_1 ?_
          refine wp_iload_n (pc := 26) dX9_impounded_26 rfl ?_
          refine wp_ishl (pc := 27) dX9_impounded_27 ?_
          refine wp_goto (pc := 28) 32 dX9_impounded_28 (by decide) ?_
          refine wp_ior (pc := 32) dX9_impounded_32 ?_
          refine wp_istore_n (pc := 33) (L' := [_, _, _]) dX9_impounded_33 (Nat.le_of_ble_eq_true rfl) rfl rfl ?_
          refine wp_iinc1 (pc := 34) (L' := [_, _, _]) dX9_impounded_34 rfl rfl rfl ?_
          refine wp_goto (pc := 37) 4 dX9_impounded_37 (by decide) ?_
          have := ih (m + 1) (by omega) (by omega)
          rw [e] at this
          first | (rw [or_bit (show m < 5 by omega)]; exact this) | (rw [or_nI, Nat.or_zero]; exact this)
  refine wp_ic (pc := 0) (x := nI 0) dX9_impounded_0 ic_0 ?_
  refine wp_istore_n (pc := 1) (L' := [_, _, _]) dX9_impounded_1 (Nat.le_of_ble_eq_true rfl) rfl rfl ?_
  refine wp_ic (pc := 2) (x := nI 0) dX9_impounded_2 ic_0 ?_
  refine wp_istore_n (pc := 3) (L' := [_, _, _]) dX9_impounded_3 (Nat.le_of_ble_eq_true rfl) rfl rfl ?_
  exact loop (lM Λ) 0 (by omega) (by omega)
