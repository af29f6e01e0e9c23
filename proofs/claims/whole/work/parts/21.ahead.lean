/-! what lies ahead -/
theorem lk_ways : ∀ k, k < 8 → lk (134 + k) = (9, 5) := by decide +kernel
theorem rt_ways {k : Nat} (hk : k < 8) : rtab 133 k = some (134 + k) := by simp [rtab, lk_133, hk]
theorem stN_lt (s w : Nat) : stN s w < 5 := Nat.mod_lt _ (by decide)
/-- a step by which no man is lost: how many ways go on from there -/
def wbN (pe : Nat → Int32) (X : Nat → Nat) (k s : Nat) : Nat := if nI s = pe k then 0 else X s
def cwN (pe : Nat → Int32) (g : Nat) : Nat → Nat → Nat → Nat
  | 0, _, s => if s = g then 1 else 0
  | r + 1, k, s => wbN pe (cwN pe g r (k + 1)) k (stN s 0) + wbN pe (cwN pe g r (k + 1)) k (stN s 1) + wbN pe (cwN pe g r (k + 1)) k (stN s 2)
theorem wbN_le {pe : Nat → Int32} {X : Nat → Nat} {b : Nat} (h : ∀ s, X s ≤ b) (k s : Nat) : wbN pe X k s ≤ b := by
  unfold wbN
  split
  · exact Nat.zero_le _
  · exact h s
theorem cwN_le (pe : Nat → Int32) (g : Nat) : ∀ r k s, cwN pe g r k s ≤ 3 ^ r
  | 0, _, _ => by unfold cwN; split <;> simp
  | r + 1, k, s => by
    have ih := fun s => cwN_le pe g r (k + 1) s
    have h0 := wbN_le (pe := pe) ih k (stN s 0)
    have h1 := wbN_le (pe := pe) ih k (stN s 1)
    have h2 := wbN_le (pe := pe) ih k (stN s 2)
    unfold cwN
    rw [Nat.pow_succ]
    omega
theorem cwN_small (pe : Nat → Int32) (g : Nat) {r k s : Nat} (h : r ≤ 7) : cwN pe g r k s ≤ 2187 := Nat.le_trans (cwN_le pe g r k s) (Nat.pow_le_pow_right (n := 3) (by decide) h)
/-- the first way that goes on well -/
def fwN (pe : Nat → Int32) (X : Nat → Nat) (k s : Nat) : Nat := if wbN pe X k (stN s 0) ≠ 0 then 0 else if wbN pe X k (stN s 1) ≠ 0 then 1 else 2
theorem fwN_lt (pe : Nat → Int32) (X : Nat → Nat) (k s : Nat) : fwN pe X k s < 3 := by unfold fwN; split; decide; split <;> decide
/-- the first row of figures: r steps from the step k and the street s on, behind the figures v -/
def frN (pe : Nat → Int32) (g : Nat) : Nat → Nat → Nat → Nat → Nat
  | 0, _, _, v => v
  | r + 1, k, s, v => frN pe g r (k + 1) (stN s (fwN pe (cwN pe g r (k + 1)) k s)) (10 * v + fwN pe (cwN pe g r (k + 1)) k s)
/-- perils as they stand in the cell 132 -/
def XE (M : Mm) (pe : Nat → Int32) : Prop := ∀ k, k < 7 → M.1 132 k = pe k
theorem c_ahead_look {l : Launch} {K : CtxT} {M : Mm} {t w : Nat} {Λ : Lw} {P : Pg} (hT : IT t) (hW : IL w) (hR : RS M) (hL : OkN Λ) (hx : XL M w Λ) (ht : XT M t Λ P) (hw : w + 5 ≤ 132) (ht6 : t + 6 ≤ 132) {d h : Nat} (hd : d < 4) (hh : P 24 = nI h) (hb : h + 7 < 2 ^ 31) : Cv l K 3 mX1_look [.ref (K.1 + 131), .ref (K.1 + w), .ref (K.1 + t), .int (nI d)] M (fun M' => Sm 132 133 M M' ∧ XE M' (perP Λ P d h)) := by
  refine cv_of (L := [some (.ref (K.1 + 131)), some (.ref (K.1 + w)), some (.ref (K.1 + t)), some (.int (nI d)), none]) (by decide +kernel) (Nat.le_of_ble_eq_true rfl) rfl rfl (fun E => ?_)
  have loop : ∀ (n i : Nat) (M1 : Mm), n = 7 - i → i ≤ 7 → Sm 132 133 M M1 → (∀ k, k < i → M1.1 132 k = perP Λ P d h k) → Wp E K mX1_look 3 (0, 0) 3 [some (.ref (K.1 + 131)), some (.ref (K.1 + w)), some (.ref (K.1 + t)), some (.int (nI d)), some (.int (nI i))] [] 168 M1 0 0 (zV E K (fun M' => Sm 132 133 M M' ∧ XE M' (perP Λ P d h))) := by
    intro n
    induction n with
    | zero =>
      intro i M1 hn hi s1 hj1
      refine wp_iload (pc := 3) dX1_look_3 rfl ?_
      refine wp_bipush (pc := 5) (x := nI 7) dX1_look_5 bp_7 ?_
      refine wp_icmp_ge (pc := 7) 31 dX1_look_7 (by decide) (fun h7 => ?_) (fun h7 => ?_)
      · have e : i = 7 := by omega
        subst e
        refine wf_vret (pc := 31) dX1_look_31 rfl ?_
        exact ⟨s1, hj1⟩
      · exact absurd (nI_le (by omega) (by omega)) h7
    | succ n ih =>
      intro i M1 hn hi s1 hj1
      refine wp_iload (pc := 3) dX1_look_3 rfl ?_
      refine wp_bipush (pc := 5) (x := nI 7) dX1_look_5 bp_7 ?_
      refine wp_icmp_ge (pc := 7) 31 dX1_look_7 (by decide) (fun h7 => ?_) (fun h7 => ?_)
      · exact absurd h7 (nI_ge (by omega) (by omega))
      · refine wp_aload_n (pc := 10) dX1_look_10 rfl ?_
        refine wf_getR (pc := 11) dX1_look_11 fl_X1_9 lk_131 ((s1.rs hR) 131 0 132 rfl) ?_
        refine wp_iload (pc := 14) dX1_look_14 rfl ?_
        refine wp_aload_n (pc := 16) dX1_look_16 rfl ?_
        refine wp_aload_n (pc := 17) dX1_look_17 rfl ?_
        refine wp_iload_n (pc := 18) dX1_look_18 rfl ?_
        refine wp_iload (pc := 19) dX1_look_19 rfl ?_
        refine wf_callVi (pc := 21) dX1_look_21 cl_X1_26 (c_perilAt hT hW (s1.rs hR) hL (hx.sm s1 (by omega)) (ht.sm s1 (by omega)) hd (show i < 10 by omega) hh (by omega)) hT.1 rfl rfl rfl rfl (Nat.le_of_ble_eq_true rfl) (by decide) ⟨Nat.le_refl _, Nat.le_refl _⟩ (fun r21 M21 q21 => ?_)
        rw [q21.1, q21.2]
        refine wf_iast (pc := 24) (j := i) dX1_look_24 lk_132 rfl (by omega) ?_
        refine wp_iinc1 (pc := 25) (L' := [_, _, _, _, _]) dX1_look_25 rfl rfl rfl ?_
        refine wp_goto (pc := 28) 3 dX1_look_28 (by decide) ?_
        refine ih (i + 1) _ (by omega) (by omega) (s1.tr (Sm.w (by omega) (by omega))) (fun k hk => ?_)
        rcases Nat.lt_succ_iff_lt_or_eq.mp hk with q | rfl
        · rw [wI_nk (by omega)]; exact hj1 k q
        · exact wI_at _ _ _ _
  refine wp_ic (pc := 0) (x := nI 0) dX1_look_0 ic_0 ?_
  refine wp_istore (pc := 1) (L' := [_, _, _, _, _]) dX1_look_1 (Nat.le_of_ble_eq_true rfl) rfl rfl ?_
  exact loop 7 0 M (by omega) (by omega) Sm.rf (fun k hk => absurd hk (by omega))
theorem c_waysBy {l : Launch} {K : CtxT} {M : Mm} {pe : Nat → Int32} (hR : RS M) (he : XE M pe) {X : Nat → Nat} {k s : Nat} (hk : k < 7) (hs : s < 5) (hX : ∀ s, s < 5 → M.1 (134 + (k + 1)) s = nI (X s)) : Ci l K 0 mX1_waysBy [.ref (K.1 + 131), .int (nI k), .int (nI s)] M (fun rv M' => rv = nI (wbN pe X k s) ∧ M' = M) := by
  refine ci_of (L := [some (.ref (K.1 + 131)), some (.int (nI k)), some (.int (nI s))]) (by decide +kernel) (Nat.le_of_ble_eq_true rfl) rfl rfl (fun E => ?_)
  refine wp_iload_n (pc := 0) dX1_waysBy_0 rfl ?_
  refine wp_aload_n (pc := 1) dX1_waysBy_1 rfl ?_
  refine wf_getR (pc := 2) dX1_waysBy_2 fl_X1_9 lk_131 (hR 131 0 132 rfl) ?_
  refine wp_iload_n (pc := 5) dX1_waysBy_5 rfl ?_
  refine wf_iald (pc := 6) (j := k) dX1_waysBy_6 lk_132 rfl (by omega) ?_
  rw [he k hk]
  refine wp_icmp_ne (pc := 7) 14 dX1_waysBy_7 (by decide) (fun h7 => ?_) (fun h7 => ?_)
  · refine wp_aload_n (pc := 14) dX1_waysBy_14 rfl ?_
    refine wf_getR (pc := 15) dX1_waysBy_15 fl_X1_17 lk_131 (hR 131 1 133 rfl) ?_
    refine wp_iload_n (pc := 18) dX1_waysBy_18 rfl ?_
    refine wp_ic (pc := 19) (x := nI 1) dX1_waysBy_19 ic_1 ?_
    refine wp_iadd (pc := 20) dX1_waysBy_20 ?_
    refine wf_aaldA (pc := 21) (j := (k + 1)) dX1_waysBy_21 lk_133 (nI_add k 1) (by omega) (hR 133 (k + 1) _ (rt_ways (by omega))) ?_
    refine wp_iload_n (pc := 22) dX1_waysBy_22 rfl ?_
    refine wf_iald (pc := 23) (j := s) dX1_waysBy_23 (lk_ways _ (by omega)) rfl (by omega) ?_
    first | rw [hX s hs] | skip
    refine wf_iret (pc := 24) dX1_waysBy_24 rfl ?_
    exact ⟨by simp [wbN, h7], rfl⟩
  · refine wp_ic (pc := 10) (x := nI 0) dX1_waysBy_10 ic_0 ?_
    refine wp_goto (pc := 11) 24 dX1_waysBy_11 (by decide) ?_
    first | rw [hX s hs] | skip
    refine wf_iret (pc := 24) dX1_waysBy_24 rfl ?_
    exact ⟨by simp [wbN, h7], rfl⟩
theorem c_waysFrom {l : Launch} {K : CtxT} {M : Mm} (hR : RS M) {X : Nat → Nat} {s : Nat} (hs : s < 5) (hX : ∀ s, s < 5 → M.1 134 s = nI (X s)) : Ci l K 0 mX1_waysFrom [.ref (K.1 + 131), .int (nI s)] M (fun rv M' => rv = nI (X s) ∧ M' = M) := by
  refine ci_of (L := [some (.ref (K.1 + 131)), some (.int (nI s))]) (by decide +kernel) (Nat.le_of_ble_eq_true rfl) rfl rfl (fun E => ?_)
  refine wp_aload_n (pc := 0) dX1_waysFrom_0 rfl ?_
  refine wf_getR (pc := 1) dX1_waysFrom_1 fl_X1_17 lk_131 (hR 131 1 133 rfl) ?_
  refine wp_ic (pc := 4) (x := nI 0) dX1_waysFrom_4 ic_0 ?_
  refine wf_aaldA (pc := 5) (j := 0) dX1_waysFrom_5 lk_133 rfl (by omega) (hR 133 0 134 rfl) ?_
  refine wp_iload_n (pc := 6) dX1_waysFrom_6 rfl ?_
  refine wf_iald (pc := 7) (j := s) dX1_waysFrom_7 lk_134 rfl (by omega) ?_
  refine wf_iret (pc := 8) dX1_waysFrom_8 rfl ?_
  exact ⟨hX s hs, rfl⟩
theorem c_firstWay {l : Launch} {K : CtxT} {M : Mm} {pe : Nat → Int32} (hR : RS M) (he : XE M pe) {X : Nat → Nat} {k s : Nat} (hk : k < 7) (hs : s < 5) (hX : ∀ s, s < 5 → M.1 (134 + (k + 1)) s = nI (X s)) (hb : ∀ s, X s ≤ 2187) : Ci l K 1 mX1_firstWay [.ref (K.1 + 131), .int (nI k), .int (nI s)] M (fun rv M' => rv = nI (fwN pe X k s) ∧ M' = M) := by
  refine ci_of (L := [some (.ref (K.1 + 131)), some (.int (nI k)), some (.int (nI s)), none]) (by decide +kernel) (Nat.le_of_ble_eq_true rfl) rfl rfl (fun E => ?_)
  have k26 : ∀ v : Nat, v = fwN pe X k s → Wp E K mX1_firstWay 1 (0, 0) 26 [some (.ref (K.1 + 131)), some (.int (nI k)), some (.int (nI s)), some (.int (nI v))] [] 168 M 0 0 (zI E K (fun rv M' => rv = nI (fwN pe X k s) ∧ M' = M)) := by
    intro v hv
    subst hv
    refine wp_iload_n (pc := 26) dX1_firstWay_26 rfl ?_
    refine wf_iret (pc := 27) dX1_firstWay_27 rfl ?_
    exact ⟨rfl, rfl⟩
  have step : ∀ v : Nat, v < 2 → (wbN pe X k (stN s v) ≠ 0 → v = fwN pe X k s) → (wbN pe X k (stN s v) = 0 → Wp E K mX1_firstWay 1 (0, 0) 2 [some (.ref (K.1 + 131)), some (.int (nI k)), some (.int (nI s)), some (.int (nI (v + 1)))] [] 168 M 0 0 (zI E K (fun rv M' => rv = nI (fwN pe X k s) ∧ M' = M))) → Wp E K mX1_firstWay 1 (0, 0) 2 [some (.ref (K.1 + 131)), some (.int (nI k)), some (.int (nI s)), some (.int (nI v))] [] 168 M 0 0 (zI E K (fun rv M' => rv = nI (fwN pe X k s) ∧ M' = M)) := by
    intro v hv h1 h2
    refine wp_iload_n (pc := 2) dX1_firstWay_2 rfl ?_
    refine wp_ic (pc := 3) (x := nI 2) dX1_firstWay_3 ic_2 ?_
    refine wp_icmp_ge (pc := 4) 26 dX1_firstWay_4 (by decide) (fun h4 => ?_) (fun h4 => ?_)
    · exact absurd h4 (nI_ge (by omega) (by omega))
    · refine wp_aload_n (pc := 7) dX1_firstWay_7 rfl ?_
      refine wp_iload_n (pc := 8) dX1_firstWay_8 rfl ?_
      refine wp_iload_n (pc := 9) dX1_firstWay_9 rfl ?_
      refine wp_iload_n (pc := 10) dX1_firstWay_10 rfl ?_
      refine wf_callSNi (pc := 11) dX1_firstWay_11 cl_X1_32 (c_streetBy hs (show v < 3 by omega)) rfl rfl (Nat.le_of_ble_eq_true rfl) (by decide) ⟨Nat.le_refl _, Nat.le_refl _⟩ (fun r11 M11 q11 => ?_)
      rw [q11.1, q11.2]
      refine wf_callVi (pc := 14) dX1_firstWay_14 cl_X1_36 (c_waysBy hR he hk (stN_lt _ _) hX) lk_131 rfl rfl rfl rfl (Nat.le_of_ble_eq_true rfl) (by decide) ⟨Nat.le_refl _, Nat.le_refl _⟩ (fun r14 M14 q14 => ?_)
      rw [q14.1, q14.2]
      have hle := wbN_le (pe := pe) hb k (stN s v)
      refine wp_if_ne (pc := 17) 26 dX1_firstWay_17 (by decide) (fun h17 => ?_) (fun h17 => ?_)
      · have h17 : wbN pe X k (stN s v) ≠ 0 := fun q => h17 (by rw [q]; rfl)
        exact k26 v (h1 h17)
      · have h17 : wbN pe X k (stN s v) = 0 := (nI_eq (by omega) (by decide)).mp h17
        refine wp_iinc1 (pc := 20) (L' := [_, _, _, _]) dX1_firstWay_20 rfl rfl rfl ?_
        refine wp_goto (pc := 23) 2 dX1_firstWay_23 (by decide) ?_
        exact h2 h17
  have k2 : wbN pe X k (stN s 0) = 0 → wbN pe X k (stN s 1) = 0 → Wp E K mX1_firstWay 1 (0, 0) 2 [some (.ref (K.1 + 131)), some (.int (nI k)), some (.int (nI s)), some (.int (nI 2))] [] 168 M 0 0 (zI E K (fun rv M' => rv = nI (fwN pe X k s) ∧ M' = M)) := by
    intro h0 h1
    refine wp_iload_n (pc := 2) dX1_firstWay_2 rfl ?_
    refine wp_ic (pc := 3) (x := nI 2) dX1_firstWay_3 ic_2 ?_
    refine wp_icmp_ge (pc := 4) 26 dX1_firstWay_4 (by decide) (fun h4 => ?_) (fun h4 => ?_)
    · exact k26 2 (by simp [fwN, h0, h1])
    · exact absurd (nI_le (Nat.le_refl 2) (by decide)) h4
  refine wp_ic (pc := 0) (x := nI 0) dX1_firstWay_0 ic_0 ?_
  refine wp_istore_n (pc := 1) (L' := [_, _, _, _]) dX1_firstWay_1 (Nat.le_of_ble_eq_true rfl) rfl rfl ?_
  exact step 0 (by decide) (fun q => by simp [fwN, q]) (fun q0 => step 1 (by decide) (fun q => by simp [fwN, q, q0]) (fun q1 => k2 q0 q1))
theorem c_firstRow {l : Launch} {K : CtxT} {M : Mm} {pe : Nat → Int32} (hR : RS M) (he : XE M pe) {g n f : Nat} (hn7 : n ≤ 7) (hf : f < 5) (hX : ∀ k, k ≤ n → ∀ s, s < 5 → M.1 (134 + k) s = nI (cwN pe g (n - k) k s)) : Ci l K 2 mX1_firstRow [.ref (K.1 + 131), .int (nI n), .int (nI f)] M (fun rv M' => rv = (if cwN pe g n 0 f = 0 then no9 else nI (frN pe g n 0 f 0)) ∧ M' = M) := by
  refine ci_of (L := [some (.ref (K.1 + 131)), some (.int (nI n)), some (.int (nI f)), none, none, none, none]) (by decide +kernel) (Nat.le_of_ble_eq_true rfl) rfl rfl (fun E => ?_)
  have loop : ∀ (r i s v : Nat), r = n - i → i ≤ n → s < 5 → frN pe g r i s v = frN pe g n 0 f 0 → ∀ z, Wp E K mX1_firstRow 2 (0, 0) 22 [some (.ref (K.1 + 131)), some (.int (nI n)), some (.int (nI f)), some (.int (nI v)), some (.int (nI s)), some (.int (nI i)), z] [] 168 M 0 0 (zI E K (fun rv M' => rv = nI (frN pe g n 0 f 0) ∧ M' = M)) := by
    intro r
    induction r with
    | zero =>
      intro i s v hr hi hs hv z
      refine wp_iload (pc := 22) dX1_firstRow_22 rfl ?_
      refine wp_iload_n (pc := 24) dX1_firstRow_24 rfl ?_
      refine wp_icmp_ge (pc := 25) 61 dX1_firstRow_25 (by decide) (fun h25 => ?_) (fun h25 => ?_)
      · have e : i = n := by omega
        subst e
        refine wp_iload_n (pc := 61) dX1_firstRow_61 rfl ?_
        refine wf_iret (pc := 62) dX1_firstRow_62 rfl ?_
        exact ⟨by rw [← hv] <;> rfl, rfl⟩
      · exact absurd (nI_le (by omega) (by omega)) h25
    | succ r ih =>
      intro i s v hr hi hs hv z
      refine wp_iload (pc := 22) dX1_firstRow_22 rfl ?_
      refine wp_iload_n (pc := 24) dX1_firstRow_24 rfl ?_
      refine wp_icmp_ge (pc := 25) 61 dX1_firstRow_25 (by decide) (fun h25 => ?_) (fun h25 => ?_)
      · exact absurd h25 (nI_ge (by omega) (by omega))
      · refine wp_aload_n (pc := 28) dX1_firstRow_28 rfl ?_
        refine wp_iload (pc := 29) dX1_firstRow_29 rfl ?_
        refine wp_iload (pc := 31) dX1_firstRow_31 rfl ?_
        refine wf_callVi (pc := 33) dX1_firstRow_33 cl_X1_39 (c_firstWay hR he (show i < 7 by omega) (show s < 5 by omega) (fun s hs => hX (i + 1) (by omega) s hs) (fun s => cwN_small pe g (by omega))) lk_131 rfl rfl rfl rfl (Nat.le_of_ble_eq_true rfl) (by decide) ⟨Nat.le_refl _, Nat.le_refl _⟩ (fun r33 M33 q33 => ?_)
        rw [q33.1, q33.2]
        have e1 : n - (i + 1) = r := by omega
        rw [e1]
        have hfl := fwN_lt pe (cwN pe g r (i + 1)) i s
        refine wp_istore (pc := 36) (L' := [_, _, _, _, _, _, _]) dX1_firstRow_36 (Nat.le_of_ble_eq_true rfl) rfl rfl ?_
        refine wp_bipush (pc := 38) (x := nI 10) dX1_firstRow_38 bp_10 ?_
        refine wp_iload_n (pc := 40) dX1_firstRow_40 rfl ?_
        refine wp_imul (pc := 41) dX1_firstRow_41 ?_
        refine wp_iload (pc := 42) dX1_firstRow_42 rfl ?_
        refine wp_iadd (pc := 44) dX1_firstRow_44 ?_
        rw [pk_mul, nI_add]
        refine wp_istore_n (pc := 45) (L' := [_, _, _, _, _, _, _]) dX1_firstRow_45 (Nat.le_of_ble_eq_true rfl) rfl rfl ?_
        refine wp_iload (pc := 46) dX1_firstRow_46 rfl ?_
        refine wp_iload (pc := 48) dX1_firstRow_48 rfl ?_
        refine wf_callSNi (pc := 50) dX1_firstRow_50 cl_X1_32 (c_streetBy (show s < 5 by omega) hfl) rfl rfl (Nat.le_of_ble_eq_true rfl) (by decide) ⟨Nat.le_refl _, Nat.le_refl _⟩ (fun r50 M50 q50 => ?_)
        rw [q50.1, q50.2]
        refine wp_istore (pc := 53) (L' := [_, _, _, _, _, _, _]) dX1_firstRow_53 (Nat.le_of_ble_eq_true rfl) rfl rfl ?_
        refine wp_iinc1 (pc := 55) (L' := [_, _, _, _, _, _, _]) dX1_firstRow_55 rfl rfl rfl ?_
        refine wp_goto (pc := 58) 22 dX1_firstRow_58 (by decide) ?_
        exact ih (i + 1) _ _ (by omega) (by omega) (stN_lt _ _) (by rw [← hv]; rfl) _
  have hle := cwN_small pe g (r := n) (k := 0) (s := f) hn7
  refine wp_aload_n (pc := 0) dX1_firstRow_0 rfl ?_
  refine wf_getR (pc := 1) dX1_firstRow_1 fl_X1_17 lk_131 (hR 131 1 133 rfl) ?_
  refine wp_ic (pc := 4) (x := nI 0) dX1_firstRow_4 ic_0 ?_
  refine wf_aaldA (pc := 5) (j := 0) dX1_firstRow_5 lk_133 rfl (by omega) (hR 133 0 134 rfl) ?_
  refine wp_iload_n (pc := 6) dX1_firstRow_6 rfl ?_
  refine wf_iald (pc := 7) (j := f) dX1_firstRow_7 lk_134 rfl (by omega) ?_
  have h00 := hX 0 (by omega) f hf
  rw [Nat.sub_zero] at h00
  rw [show M.1 134 f = nI (cwN pe g n 0 f) from h00]
  refine wp_if_ne (pc := 8) 14 dX1_firstRow_8 (by decide) (fun h8 => ?_) (fun h8 => ?_)
  · have h8 : cwN pe g n 0 f ≠ 0 := fun q => h8 (by rw [q]; rfl)
    rw [if_neg h8]
    refine wp_ic (pc := 14) (x := nI 0) dX1_firstRow_14 ic_0 ?_
    refine wp_istore_n (pc := 15) (L' := [_, _, _, _, _, _, _]) dX1_firstRow_15 (Nat.le_of_ble_eq_true rfl) rfl rfl ?_
    refine wp_iload_n (pc := 16) dX1_firstRow_16 rfl ?_
    refine wp_istore (pc := 17) (L' := [_, _, _, _, _, _, _]) dX1_firstRow_17 (Nat.le_of_ble_eq_true rfl) rfl rfl ?_
    refine wp_ic (pc := 19) (x := nI 0) dX1_firstRow_19 ic_0 ?_
    refine wp_istore (pc := 20) (L' := [_, _, _, _, _, _, _]) dX1_firstRow_20 (Nat.le_of_ble_eq_true rfl) rfl rfl ?_
    exact loop n 0 f 0 (by omega) (by omega) hf rfl _
  · have h8 : cwN pe g n 0 f = 0 := (nI_eq (by omega) (by decide)).mp h8
    refine wp_bipush (pc := 11) (x := (-9)) dX1_firstRow_11 bp_m9 ?_
    refine wf_iret (pc := 13) dX1_firstRow_13 rfl ?_
    exact ⟨by rw [if_pos h8], rfl⟩
