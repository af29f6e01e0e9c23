/-! parents, degrees, rivals, peril -/
def nv (x : Nat) : Int32 := if x = 9 then no9 else nI x
theorem nv_9 : nv 9 = no9 := rfl
theorem nv_n {x : Nat} (h : x ≠ 9) : nv x = nI x := if_neg h
/-- the parent by its number; 9: none -/
def pq (pa : Pg) (d : Nat) : Nat := if pa d = no9 then 9 else (pa d).toNatClampNeg
def PaOk (Λ : Lw) : Prop := ∀ d, d < lD Λ → lPa Λ d = no9 ∨ ∃ q, q < lD Λ ∧ lPa Λ d = nI q
theorem pq_ok {Λ : Lw} (hp : PaOk Λ) (hL : OkN Λ) {d : Nat} (hd : d < lD Λ) : lPa Λ d = nv (pq (lPa Λ) d) ∧ (pq (lPa Λ) d = 9 ∨ pq (lPa Λ) d < lD Λ) := by
  have hD := hL.1
  rcases hp d hd with h | ⟨q, hq, h⟩
  · unfold pq; rw [if_pos h]; exact ⟨h, Or.inl rfl⟩
  · have hn : ¬ lPa Λ d = no9 := by rw [h]; exact fun e => absurd (nI_pos (n := q) (by omega)) (by rw [e]; decide)
    unfold pq; rw [if_neg hn, h, nI_clamp (by omega)]
    exact ⟨(nv_n (by omega)).symm, Or.inr hq⟩
theorem nv_in {x n : Nat} (hn : n ≤ 4) (h : x = 9 ∨ x < n) : inD (nv x) n = decide (x < n) := by
  rcases h with rfl | h
  · rw [nv_9, inD_no]; exact (decide_eq_false (by omega)).symm
  · rw [nv_n (by omega), inD_nI (by omega) h]; exact (decide_eq_true h).symm
def cfN (q : Nat → Nat) (D : Nat) : Nat → Nat → Nat → Bool
  | 0, _, _ => false
  | n + 1, x, f => if x < D then (if x = f then true else cfN q D n (q x) f) else false
def dgI (q : Nat → Nat) (D : Nat) : Nat → Nat → Nat → Nat → Nat
  | 0, _, _, _ => 9
  | n + 1, j, u, o => if o < D then (if u = o then j else dgI q D n (j + 1) u (q o)) else 9
def dgO (q : Nat → Nat) (D : Nat) : Nat → Nat → Nat → Nat → Nat
  | 0, _, _, _ => 9
  | n + 1, i, u, o => if u < D then (if dgI q D 4 0 u o = 9 then dgO q D n (i + 1) (q u) o else i + dgI q D 4 0 u o) else 9
theorem dgI_le (q : Nat → Nat) (D : Nat) : ∀ (n j u o : Nat), j + n ≤ 4 → dgI q D n j u o = 9 ∨ dgI q D n j u o < 4
  | 0, _, _, _, _ => Or.inl rfl
  | n + 1, j, u, o, h => by
    unfold dgI
    split
    · split
      · exact Or.inr (by omega)
      · exact dgI_le q D n (j + 1) u (q o) (by omega)
    · exact Or.inl rfl
theorem dgO_le (q : Nat → Nat) (D : Nat) : ∀ (n i u o : Nat), i + n ≤ 4 → dgO q D n i u o = 9 ∨ dgO q D n i u o < 7
  | 0, _, _, _, _ => Or.inl rfl
  | n + 1, i, u, o, h => by
    unfold dgO
    split
    · split
      · exact dgO_le q D n (i + 1) (q u) o (by omega)
      · rename_i h9
        rcases dgI_le q D 4 0 u o (by omega) with e | e
        · exact absurd e h9
        · exact Or.inr (by omega)
    · exact Or.inl rfl
def anyN (n : Nat) (f : Nat → Bool) : Bool := (List.range n).any f
theorem anyN_t {n m : Nat} {f : Nat → Bool} (hm : m < n) (h : f m = true) : anyN n f = true := List.any_eq_true.mpr ⟨m, List.mem_range.mpr hm, h⟩
theorem anyN_f {n : Nat} {f : Nat → Bool} (h : ∀ m, m < n → f m = false) : anyN n f = false := by
  unfold anyN
  rw [List.any_eq_false]
  intro m hm
  rw [h m (List.mem_range.mp hm)]
  decide
def rivB (Λ : Lw) (d o : Nat) : Bool := decide (o ≠ d) && decide (lRa Λ o = lRa Λ d)
def perB (Λ : Lw) (P : Pg) (d k : Nat) (late : Bool) (m : Nat) : Bool := decide (P (8 + m) = nI d) && (decide (P (19 + m) ≤ nI k) && mayP Λ P m late)
def perP (Λ : Lw) (P : Pg) (d h k : Nat) : Int32 := if anyN (lM Λ) (perB Λ P d k (decide (lLe Λ ≤ nI ((h + k) % 12)))) = true then lRo Λ ((h + k) % 4) else no9
def rootN (pa : Pg) : Nat → Nat
  | 0 => 0
  | d + 1 => rootN pa d + (if pa d = no9 then 1 else 0)
theorem rootN_le (pa : Pg) : ∀ n, rootN pa n ≤ n
  | 0 => Nat.le_refl _
  | n + 1 => by have := rootN_le pa n; unfold rootN; split <;> omega
def inhB (Λ : Lw) (d o b : Nat) : Bool := !decide (b < lD Λ) || (decide (0 < nv (dgO (pq (lPa Λ)) (lD Λ) 4 0 d b) - nv (dgO (pq (lPa Λ)) (lD Λ) 4 0 d o)) || (decide (nv (dgO (pq (lPa Λ)) (lD Λ) 4 0 d b) - nv (dgO (pq (lPa Λ)) (lD Λ) 4 0 d o) = 0) && decide (lRa Λ b < lRa Λ o)))
theorem c_comesFrom {l : Launch} {K : CtxT} {M : Mm} {w : Nat} {Λ : Lw} (hW : IL w) (hR : RS M) (hL : OkN Λ) (hx : XL M w Λ) (hp : PaOk Λ) {x0 f : Nat} (hx0 : x0 = 9 ∨ x0 < lD Λ) (hf : f < 4) : Ci l K 1 mX2_comesFrom [.ref (K.1 + w), .int (nv x0), .int (nI f)] M (fun rv M' => rv = b2i (cfN (pq (lPa Λ)) (lD Λ) 4 x0 f) ∧ M' = M) := by
  refine ci_of (L := [some (.ref (K.1 + w)), some (.int (nv x0)), some (.int (nI f)), none, none]) (by decide +kernel) (Nat.le_of_ble_eq_true rfl) rfl rfl (fun E => ?_)
  generalize hB : cfN (pq (lPa Λ)) (lD Λ) 4 x0 f = B
  have loop : ∀ (n i x : Nat), n = 4 - i → i ≤ 4 → (x = 9 ∨ x < lD Λ) → cfN (pq (lPa Λ)) (lD Λ) n x f = B → Wp E K mX2_comesFrom 1 (0, 0) 5 [some (.ref (K.1 + w)), some (.int (nv x0)), some (.int (nI f)), some (.int (nv x)), some (.int (nI i))] [] 168 M 0 0 (zI E K (fun r M' => r = b2i B ∧ M' = M)) := by
    intro n
    induction n with
    | zero =>
      intro i x hn hi hx9 hb
      refine wp_iload (pc := 5) dX2_comesFrom_5 rfl ?_
      refine wp_ic (pc := 7) (x := nI 4) dX2_comesFrom_7 ic_4 ?_
      refine wp_icmp_ge (pc := 8) 39 dX2_comesFrom_8 (by decide) (fun h8 => ?_) (fun h8 => ?_)
      · refine wp_ic (pc := 39) (x := nI 0) dX2_comesFrom_39 ic_0 ?_
        refine wf_zret (pc := 40) (false) dX2_comesFrom_40 rfl rfl ?_
        exact ⟨by rw [← hb] <;> rfl, rfl⟩
      · exact absurd (nI_le (by omega) (by omega)) h8
    | succ n ih =>
      intro i x hn hi hx9 hb
      refine wp_iload (pc := 5) dX2_comesFrom_5 rfl ?_
      refine wp_ic (pc := 7) (x := nI 4) dX2_comesFrom_7 ic_4 ?_
      refine wp_icmp_ge (pc := 8) 39 dX2_comesFrom_8 (by decide) (fun h8 => ?_) (fun h8 => ?_)
      · exact absurd h8 (nI_ge (by omega) (by omega))
      · refine wp_aload_n (pc := 11) dX2_comesFrom_11 rfl ?_
        refine wp_iload_n (pc := 12) dX2_comesFrom_12 rfl ?_
        refine wf_callVi (pc := 13) dX2_comesFrom_13 cl_X2_53 (c_hasDog hW hR hL hx) hW.1 rfl rfl rfl rfl (Nat.le_of_ble_eq_true rfl) (by decide) ⟨Nat.le_refl _, Nat.le_refl _⟩ (fun r13 M13 q13 => ?_)
        rw [q13.1, q13.2, nv_in hL.1 hx9]
        refine wp_if_eq (pc := 16) 39 dX2_comesFrom_16 (by decide) (fun h16 => ?_) (fun h16 => ?_)
        · have h16 := b2i_0 h16
          have h16 := of_decide_eq_false h16
          simp only [cfN, h16, if_false] at hb
          refine wp_ic (pc := 39) (x := nI 0) dX2_comesFrom_39 ic_0 ?_
          refine wf_zret (pc := 40) (false) dX2_comesFrom_40 rfl rfl ?_
          exact ⟨by rw [← hb] <;> rfl, rfl⟩
        · have h16 := b2i_1 h16
          have h16 := of_decide_eq_true h16
          simp only [cfN, h16, if_true] at hb
          have hpx := pq_ok hp hL h16
          have hnx : nv x = nI x := nv_n (by have := hL.1; omega)
          have hD := hL.1
          refine wp_iload_n (pc := 19) dX2_comesFrom_19 rfl ?_
          refine wp_iload_n (pc := 20) dX2_comesFrom_20 rfl ?_
          refine wp_icmp_ne (pc := 21) 26 dX2_comesFrom_21 (by decide) (fun h21 => ?_) (fun h21 => ?_)
          · rw [hnx] at h21
            have h21 : ¬ x = f := fun q => h21 (by rw [q])
            rw [if_neg h21] at hb
            refine wp_aload_n (pc := 26) dX2_comesFrom_26 rfl ?_
            refine wf_getR (pc := 27) dX2_comesFrom_27 fl_X2_34 hW.1 (hR _ _ _ (rt_L7 hW)) ?_
            refine wp_iload_n (pc := 30) dX2_comesFrom_30 rfl ?_
            refine wf_iald (pc := 31) (j := x) dX2_comesFrom_31 hW.2.2.2.2 hnx (by omega) ?_
            rw [(hx.2.2.2.2.2 x h16).2.2, hpx.1]
            refine wp_istore_n (pc := 32) (L' := [_, _, _, _, _]) dX2_comesFrom_32 (Nat.le_of_ble_eq_true rfl) rfl rfl ?_
            refine wp_iinc1 (pc := 33) (L' := [_, _, _, _, _]) dX2_comesFrom_33 rfl rfl rfl ?_
            refine wp_goto (pc := 36) 5 dX2_comesFrom_36 (by decide) ?_
            exact ih (i + 1) _ (by omega) (by omega) hpx.2 hb
          · rw [hnx] at h21
            have h21 : x = f := (nI_eq (by omega) (by omega)).mp h21
            rw [if_pos h21] at hb
            refine wp_ic (pc := 24) (x := nI 1) dX2_comesFrom_24 ic_1 ?_
            refine wf_zret (pc := 25) (true) dX2_comesFrom_25 rfl rfl ?_
            exact ⟨by rw [← hb] <;> rfl, rfl⟩
  refine wp_iload_n (pc := 0) dX2_comesFrom_0 rfl ?_
  refine wp_istore_n (pc := 1) (L' := [_, _, _, _, _]) dX2_comesFrom_1 (Nat.le_of_ble_eq_true rfl) rfl rfl ?_
  refine wp_ic (pc := 2) (x := nI 0) dX2_comesFrom_2 ic_0 ?_
  refine wp_istore (pc := 3) (L' := [_, _, _, _, _]) dX2_comesFrom_3 (Nat.le_of_ble_eq_true rfl) rfl rfl ?_
  exact loop 4 0 x0 (by omega) (by omega) hx0 hB
theorem c_comesFromN {l : Launch} {K : CtxT} {M : Mm} {w : Nat} {Λ : Lw} (hW : IL w) (hR : RS M) (hL : OkN Λ) (hx : XL M w Λ) (hp : PaOk Λ) {x0 f : Nat} (hx0 : x0 < lD Λ) (hf : f < 4) : Ci l K 1 mX2_comesFrom [.ref (K.1 + w), .int (nI x0), .int (nI f)] M (fun r M' => r = b2i (cfN (pq (lPa Λ)) (lD Λ) 4 x0 f) ∧ M' = M) := by
  have h := c_comesFrom (l := l) (K := K) hW hR hL hx hp (x0 := x0) (f := f) (Or.inr hx0) hf
  rwa [nv_n (show x0 ≠ 9 by have := hL.1; omega)] at h
theorem c_mayParent {l : Launch} {K : CtxT} {M : Mm} {w : Nat} {Λ : Lw} (hW : IL w) (hR : RS M) (hL : OkN Λ) (hx : XL M w Λ) (hp : PaOk Λ) {d f : Nat} (hd : d < lD Λ) (hf : f < lD Λ) : Ci l K 2 mX2_mayParent [.ref (K.1 + w), .int (nI d), .int (nI f)] M (fun rv M' => rv = b2i (decide (d ≠ f) && (decide (lPa Λ f = no9) && !cfN (pq (lPa Λ)) (lD Λ) 4 d f)) ∧ M' = M) := by
  have hD := hL.1
  refine ci_of (L := [some (.ref (K.1 + w)), some (.int (nI d)), some (.int (nI f))]) (by decide +kernel) (Nat.le_of_ble_eq_true rfl) rfl rfl (fun E => ?_)
  refine wp_iload_n (pc := 0) dX2_mayParent_0 rfl ?_
  refine wp_iload_n (pc := 1) dX2_mayParent_1 rfl ?_
  refine wp_icmp_eq (pc := 2) 29 dX2_mayParent_2 (by decide) (fun h2 => ?_) (fun h2 => ?_)
  · have h2 := (nI_eq (by omega) (by omega)).mp h2
    refine wp_ic (pc := 29) (x := nI 0) dX2_mayParent_29 ic_0 ?_
    refine wf_zret (pc := 30) (false) dX2_mayParent_30 rfl rfl ?_
    exact ⟨by simp [*], rfl⟩
  · have h2 : ¬ d = f := fun q => h2 (by rw [q])
    refine wp_aload_n (pc := 5) dX2_mayParent_5 rfl ?_
    refine wf_getR (pc := 6) dX2_mayParent_6 fl_X2_34 hW.1 (hR _ _ _ (rt_L7 hW)) ?_
    refine wp_iload_n (pc := 9) dX2_mayParent_9 rfl ?_
    refine wf_iald (pc := 10) (j := f) dX2_mayParent_10 hW.2.2.2.2 rfl (by omega) ?_
    rw [(hx.2.2.2.2.2 f hf).2.2]
    refine wp_bipush (pc := 11) (x := (-9)) dX2_mayParent_11 bp_m9 ?_
    refine wp_icmp_ne (pc := 13) 29 dX2_mayParent_13 (by decide) (fun h13 => ?_) (fun h13 => ?_)
    · refine wp_ic (pc := 29) (x := nI 0) dX2_mayParent_29 ic_0 ?_
      refine wf_zret (pc := 30) (false) dX2_mayParent_30 rfl rfl ?_
      exact ⟨by simp [*], rfl⟩
    · refine wp_aload_n (pc := 16) dX2_mayParent_16 rfl ?_
      refine wp_iload_n (pc := 17) dX2_mayParent_17 rfl ?_
      refine wp_iload_n (pc := 18) dX2_mayParent_18 rfl ?_
      refine wf_callVi (pc := 19) dX2_mayParent_19 cl_X2_49 (c_comesFromN hW hR hL hx hp hd (by omega)) hW.1 rfl rfl rfl rfl (Nat.le_of_ble_eq_true rfl) (by decide) ⟨Nat.le_refl _, Nat.le_refl _⟩ (fun r19 M19 q19 => ?_)
      rw [q19.1, q19.2]
      refine wp_if_ne (pc := 22) 29 dX2_mayParent_22 (by decide) (fun h22 => ?_) (fun h22 => ?_)
      · have h22 := b2i_1 h22
        refine wp_ic (pc := 29) (x := nI 0) dX2_mayParent_29 ic_0 ?_
        refine wf_zret (pc := 30) (false) dX2_mayParent_30 rfl rfl ?_
        exact ⟨by simp [*], rfl⟩
      · have h22 := b2i_0 h22
        refine wp_ic (pc := 25) (x := nI 1) dX2_mayParent_25 ic_1 ?_
        refine wp_goto (pc := 26) 30 dX2_mayParent_26 (by decide) ?_
        refine wf_zret (pc := 30) (true) dX2_mayParent_30 rfl rfl ?_
        exact ⟨by simp [*], rfl⟩
theorem c_mayParentSome {l : Launch} {K : CtxT} {M : Mm} {w : Nat} {Λ : Lw} (hW : IL w) (hR : RS M) (hL : OkN Λ) (hx : XL M w Λ) : Ci l K 1 mX2_mayParentSome [.ref (K.1 + w)] M (fun rv M' => rv = b2i (decide (1 < rootN (lPa Λ) (lD Λ))) ∧ M' = M) := by
  have hD := hL.1
  refine ci_of (L := [some (.ref (K.1 + w)), none, none]) (by decide +kernel) (Nat.le_of_ble_eq_true rfl) rfl rfl (fun E => ?_)
  have loop : ∀ (n i : Nat), n = lD Λ - i → i ≤ lD Λ → Wp E K mX2_mayParentSome 1 (0, 0) 4 [some (.ref (K.1 + w)), some (.int (nI (rootN (lPa Λ) i))), some (.int (nI i))] [] 168 M 0 0 (zI E K (fun rv M' => rv = b2i (decide (1 < rootN (lPa Λ) (lD Λ))) ∧ M' = M)) := by
    intro n
    induction n with
    | zero =>
      intro i hn hm
      refine wp_iload_n (pc := 4) dX2_mayParentSome_4 rfl ?_
      refine wp_aload_n (pc := 5) dX2_mayParentSome_5 rfl ?_
      refine wf_getI (pc := 6) dX2_mayParentSome_6 fl_X2_9 hW.1 ?_
      rw [hx.1]
      refine wp_icmp_ge (pc := 9) 37 dX2_mayParentSome_9 (by decide) (fun h9 => ?_) (fun h9 => ?_)
      · have e : i = lD Λ := by omega
        subst e
        have hr := rootN_le (lPa Λ) (lD Λ)
        refine wp_iload_n (pc := 37) dX2_mayParentSome_37 rfl ?_
        refine wp_ic (pc := 38) (x := nI 1) dX2_mayParentSome_38 ic_1 ?_
        refine wp_icmp_le (pc := 39) 46 dX2_mayParentSome_39 (by decide) (fun h39 => ?_) (fun h39 => ?_)
        · have h39 : ¬ 1 < rootN (lPa Λ) (lD Λ) := fun q => (nI_ge q (by omega)) h39
          refine wp_ic (pc := 46) (x := nI 0) dX2_mayParentSome_46 ic_0 ?_
          refine wf_zret (pc := 47) (false) dX2_mayParentSome_47 rfl rfl ?_
          exact ⟨by simp [h39, b2i], rfl⟩
        · have h39 : 1 < rootN (lPa Λ) (lD Λ) := by rcases Nat.lt_or_ge 1 (rootN (lPa Λ) (lD Λ)) with q | q; exact q; exact absurd (nI_le q (by omega)) h39
          refine wp_ic (pc := 42) (x := nI 1) dX2_mayParentSome_42 ic_1 ?_
          refine wp_goto (pc := 43) 47 dX2_mayParentSome_43 (by decide) ?_
          refine wf_zret (pc := 47) (true) dX2_mayParentSome_47 rfl rfl ?_
          exact ⟨by simp [h39, b2i], rfl⟩
      · exact absurd (nI_le (by omega) (by omega)) h9
    | succ n ih =>
      intro i hn hm
      refine wp_iload_n (pc := 4) dX2_mayParentSome_4 rfl ?_
      refine wp_aload_n (pc := 5) dX2_mayParentSome_5 rfl ?_
      refine wf_getI (pc := 6) dX2_mayParentSome_6 fl_X2_9 hW.1 ?_
      rw [hx.1]
      refine wp_icmp_ge (pc := 9) 37 dX2_mayParentSome_9 (by decide) (fun h9 => ?_) (fun h9 => ?_)
      · exact absurd h9 (nI_ge (by omega) (by omega))
      · refine wp_iload_n (pc := 12) dX2_mayParentSome_12 rfl ?_
        refine wp_aload_n (pc := 13) dX2_mayParentSome_13 rfl ?_
        refine wf_getR (pc := 14) dX2_mayParentSome_14 fl_X2_34 hW.1 (hR _ _ _ (rt_L7 hW)) ?_
        refine wp_iload_n (pc := 17) dX2_mayParentSome_17 rfl ?_
        refine wf_iald (pc := 18) (j := i) dX2_mayParentSome_18 hW.2.2.2.2 rfl (by omega) ?_
        rw [(hx.2.2.2.2.2 i (by omega)).2.2]
        refine wp_bipush (pc := 19) (x := (-9)) dX2_mayParentSome_19 bp_m9 ?_
        refine wp_icmp_ne (pc := 21) 28 dX2_mayParentSome_21 (by decide) (fun h21 => ?_) (fun h21 => ?_)
        · have e2 : rootN (lPa Λ) (i + 1) = rootN (lPa Λ) i + 0 := by simp [rootN, h21]
          refine wp_ic (pc := 28) (x := nI 0) dX2_mayParentSome_28 ic_0 ?_
          refine wp_iadd (pc := 29) dX2_mayParentSome_29 ?_
          refine wp_istore_n (pc := 30) (L' := [_, _, _]) dX2_mayParentSome_30 (Nat.le_of_ble_eq_true rfl) rfl rfl ?_
          refine wp_iinc1 (pc := 31) (L' := [_, _, _]) dX2_mayParentSome_31 rfl rfl rfl ?_
          refine wp_goto (pc := 34) 4 dX2_mayParentSome_34 (by decide) ?_
          have g := ih (i + 1) (by omega) (by omega)
          rw [e2, ← nI_add] at g
          exact g
        · have e2 : rootN (lPa Λ) (i + 1) = rootN (lPa Λ) i + 1 := by simp [rootN, h21]
          refine wp_ic (pc := 24) (x := nI 1) dX2_mayParentSome_24 ic_1 ?_
          refine wp_goto (pc := 25) 29 dX2_mayParentSome_25 (by decide) ?_
          refine wp_iadd (pc := 29) dX2_mayParentSome_29 ?_
          refine wp_istore_n (pc := 30) (L' := [_, _, _]) dX2_mayParentSome_30 (Nat.le_of_ble_eq_true rfl) rfl rfl ?_
          refine wp_iinc1 (pc := 31) (L' := [_, _, _]) dX2_mayParentSome_31 rfl rfl rfl ?_
          refine wp_goto (pc := 34) 4 dX2_mayParentSome_34 (by decide) ?_
          have g := ih (i + 1) (by omega) (by omega)
          rw [e2, ← nI_add] at g
          exact g
  refine wp_ic (pc := 0) (x := nI 0) dX2_mayParentSome_0 ic_0 ?_
  refine wp_istore_n (pc := 1) (L' := [_, _, _]) dX2_mayParentSome_1 (Nat.le_of_ble_eq_true rfl) rfl rfl ?_
  refine wp_ic (pc := 2) (x := nI 0) dX2_mayParentSome_2 ic_0 ?_
  refine wp_istore_n (pc := 3) (L' := [_, _, _]) dX2_mayParentSome_3 (Nat.le_of_ble_eq_true rfl) rfl rfl ?_
  exact loop (lD Λ) 0 (by omega) (by omega)
theorem c_hasRival {l : Launch} {K : CtxT} {M : Mm} {w : Nat} {Λ : Lw} (hW : IL w) (hR : RS M) (hL : OkN Λ) (hx : XL M w Λ) {d : Nat} (hd : d < lD Λ) : Ci l K 1 mX2_hasRival [.ref (K.1 + w), .int (nI d)] M (fun rv M' => rv = b2i (anyN (lD Λ) (rivB Λ d)) ∧ M' = M) := by
  have hD := hL.1
  refine ci_of (L := [some (.ref (K.1 + w)), some (.int (nI d)), none]) (by decide +kernel) (Nat.le_of_ble_eq_true rfl) rfl rfl (fun E => ?_)
  have loop : ∀ (n i : Nat), n = lD Λ - i → i ≤ lD Λ →  (∀ o, o < i → rivB Λ d o = false) → Wp E K mX2_hasRival 1 (0, 0) 2 [some (.ref (K.1 + w)), some (.int (nI d)), some (.int (nI i))] [] 168 M 0 0 (zI E K (fun rv M' => rv = b2i (anyN (lD Λ) (rivB Λ d)) ∧ M' = M)) := by
    intro n
    induction n with
    | zero =>
      intro i hn hm hf
      refine wp_iload_n (pc := 2) dX2_hasRival_2 rfl ?_
      refine wp_aload_n (pc := 3) dX2_hasRival_3 rfl ?_
      refine wf_getI (pc := 4) dX2_hasRival_4 fl_X2_9 hW.1 ?_
      rw [hx.1]
      refine wp_icmp_ge (pc := 7) 38 dX2_hasRival_7 (by decide) (fun h7 => ?_) (fun h7 => ?_)
      · have e : i = lD Λ := by omega
        subst e
        refine wp_ic (pc := 38) (x := nI 0) dX2_hasRival_38 ic_0 ?_
        refine wf_zret (pc := 39) (false) dX2_hasRival_39 rfl rfl ?_
        exact ⟨by rw [anyN_f hf] <;> rfl, rfl⟩
      · exact absurd (nI_le (by omega) (by omega)) h7
    | succ n ih =>
      intro i hn hm hf
      refine wp_iload_n (pc := 2) dX2_hasRival_2 rfl ?_
      refine wp_aload_n (pc := 3) dX2_hasRival_3 rfl ?_
      refine wf_getI (pc := 4) dX2_hasRival_4 fl_X2_9 hW.1 ?_
      rw [hx.1]
      refine wp_icmp_ge (pc := 7) 38 dX2_hasRival_7 (by decide) (fun h7 => ?_) (fun h7 => ?_)
      · exact absurd h7 (nI_ge (by omega) (by omega))
      · refine wp_iload_n (pc := 10) dX2_hasRival_10 rfl ?_
        refine wp_iload_n (pc := 11) dX2_hasRival_11 rfl ?_
        refine wp_icmp_eq (pc := 12) 32 dX2_hasRival_12 (by decide) (fun h12 => ?_) (fun h12 => ?_)
        · have h12 := (nI_eq (by omega) (by omega)).mp h12
          have e2 : rivB Λ d i = false := by simp [rivB, h12]
          refine wp_iinc1 (pc := 32) (L' := [_, _, _]) dX2_hasRival_32 rfl rfl rfl ?_
          refine wp_goto (pc := 35) 2 dX2_hasRival_35 (by decide) ?_
          exact ih (i + 1) (by omega) (by omega) (fun o ho => by rcases Nat.lt_succ_iff_lt_or_eq.mp ho with q | rfl; exact hf o q; exact e2)
        · have h12 : ¬ i = d := fun q => h12 (by rw [q])
          refine wp_aload_n (pc := 15) dX2_hasRival_15 rfl ?_
          refine wf_getR (pc := 16) dX2_hasRival_16 fl_X2_28 hW.1 (hR _ _ _ (rt_L5 hW)) ?_
          refine wp_iload_n (pc := 19) dX2_hasRival_19 rfl ?_
          refine wf_iald (pc := 20) (j := i) dX2_hasRival_20 hW.2.2.1 rfl (by omega) ?_
          rw [(hx.2.2.2.2.2 i (by omega)).1]
          refine wp_aload_n (pc := 21) dX2_hasRival_21 rfl ?_
          refine wf_getR (pc := 22) dX2_hasRival_22 fl_X2_28 hW.1 (hR _ _ _ (rt_L5 hW)) ?_
          refine wp_iload_n (pc := 25) dX2_hasRival_25 rfl ?_
          refine wf_iald (pc := 26) (j := d) dX2_hasRival_26 hW.2.2.1 rfl (by omega) ?_
          rw [(hx.2.2.2.2.2 d (by omega)).1]
          refine wp_icmp_ne (pc := 27) 32 dX2_hasRival_27 (by decide) (fun h27 => ?_) (fun h27 => ?_)
          · have e2 : rivB Λ d i = false := by simp [rivB, h27]
            refine wp_iinc1 (pc := 32) (L' := [_, _, _]) dX2_hasRival_32 rfl rfl rfl ?_
            refine wp_goto (pc := 35) 2 dX2_hasRival_35 (by decide) ?_
            exact ih (i + 1) (by omega) (by omega) (fun o ho => by rcases Nat.lt_succ_iff_lt_or_eq.mp ho with q | rfl; exact hf o q; exact e2)
          · have e2 : rivB Λ d i = true := by simp [rivB, h12, h27]
            refine wp_ic (pc := 30) (x := nI 1) dX2_hasRival_30 ic_1 ?_
            refine wf_zret (pc := 31) (true) dX2_hasRival_31 rfl rfl ?_
            exact ⟨by rw [anyN_t (show i < lD Λ by omega) e2] <;> rfl, rfl⟩
  refine wp_ic (pc := 0) (x := nI 0) dX2_hasRival_0 ic_0 ?_
  refine wp_istore_n (pc := 1) (L' := [_, _, _]) dX2_hasRival_1 (Nat.le_of_ble_eq_true rfl) rfl rfl ?_
  exact loop (lD Λ) 0 (by omega) (by omega) (fun o ho => absurd ho (by omega))
theorem c_degree {l : Launch} {K : CtxT} {M : Mm} {w : Nat} {Λ : Lw} (hW : IL w) (hR : RS M) (hL : OkN Λ) (hx : XL M w Λ) (hp : PaOk Λ) {d0 o0 : Nat} (hd0 : d0 < lD Λ) (ho0 : o0 < lD Λ) : Ci l K 1 mX2_degree [.ref (K.1 + w), .int (nI d0), .int (nI o0)] M (fun rv M' => rv = nv (dgO (pq (lPa Λ)) (lD Λ) 4 0 d0 o0) ∧ M' = M) := by
  have hD := hL.1
  refine ci_of (L := [some (.ref (K.1 + w)), some (.int (nI d0)), some (.int (nI o0)), none, none, none, none]) (by decide +kernel) (Nat.le_of_ble_eq_true rfl) rfl rfl (fun E => ?_)
  generalize hB : dgO (pq (lPa Λ)) (lD Λ) 4 0 d0 o0 = B
  have inner : ∀ (u i G : Nat), u < lD Λ → i < 4 → (G = 9 → ∀ z1 z2, Wp E K mX2_degree 1 (0, 0) 67 [some (.ref (K.1 + w)), some (.int (nI d0)), some (.int (nI o0)), some (.int (nI u)), some (.int (nI i)), z1, z2] [] 168 M 0 0 (zI E K (fun r M' => r = nv B ∧ M' = M))) → (G ≠ 9 → G < 4 ∧ i + G = B) →
      ∀ (n j x : Nat), n = 4 - j → j ≤ 4 → (x = 9 ∨ x < lD Λ) → dgI (pq (lPa Λ)) (lD Λ) n j u x = G → Wp E K mX2_degree 1 (0, 0) 25 [some (.ref (K.1 + w)), some (.int (nI d0)), some (.int (nI o0)), some (.int (nI u)), some (.int (nI i)), some (.int (nv x)), some (.int (nI j))] [] 168 M 0 0 (zI E K (fun r M' => r = nv B ∧ M' = M)) := by
    intro u i G hu hi hout hin n
    induction n with
    | zero =>
      intro j x hn hj hx9 hb
      refine wp_iload (pc := 25) dX2_degree_25 rfl ?_
      refine wp_ic (pc := 27) (x := nI 4) dX2_degree_27 ic_4 ?_
      refine wp_icmp_ge (pc := 28) 67 dX2_degree_28 (by decide) (fun h28 => ?_) (fun h28 => ?_)
      · exact hout hb.symm _ _
      · exact absurd (nI_le (by omega) (by omega)) h28
    | succ n ih =>
      intro j x hn hj hx9 hb
      refine wp_iload (pc := 25) dX2_degree_25 rfl ?_
      refine wp_ic (pc := 27) (x := nI 4) dX2_degree_27 ic_4 ?_
      refine wp_icmp_ge (pc := 28) 67 dX2_degree_28 (by decide) (fun h28 => ?_) (fun h28 => ?_)
      · exact absurd h28 (nI_ge (by omega) (by omega))
      · refine wp_aload_n (pc := 31) dX2_degree_31 rfl ?_
        refine wp_iload (pc := 32) dX2_degree_32 rfl ?_
        refine wf_callVi (pc := 34) dX2_degree_34 cl_X2_53 (c_hasDog hW hR hL hx) hW.1 rfl rfl rfl rfl (Nat.le_of_ble_eq_true rfl) (by decide) ⟨Nat.le_refl _, Nat.le_refl _⟩ (fun r34 M34 q34 => ?_)
        rw [q34.1, q34.2, nv_in hL.1 hx9]
        refine wp_if_eq (pc := 37) 67 dX2_degree_37 (by decide) (fun h37 => ?_) (fun h37 => ?_)
        · have h37 := b2i_0 h37
          have h37 := of_decide_eq_false h37
          simp only [dgI, h37, if_false] at hb
          exact hout hb.symm _ _
        · have h37 := b2i_1 h37
          have h37 := of_decide_eq_true h37
          simp only [dgI, h37, if_true] at hb
          have hpx := pq_ok hp hL h37
          have hnx : nv x = nI x := nv_n (by omega)
          refine wp_iload_n (pc := 40) dX2_degree_40 rfl ?_
          refine wp_iload (pc := 41) dX2_degree_41 rfl ?_
          refine wp_icmp_ne (pc := 43) 52 dX2_degree_43 (by decide) (fun h43 => ?_) (fun h43 => ?_)
          · rw [hnx] at h43
            have h43 : ¬ u = x := fun q => h43 (by rw [q])
            rw [if_neg h43] at hb
            refine wp_aload_n (pc := 52) dX2_degree_52 rfl ?_
            refine wf_getR (pc := 53) dX2_degree_53 fl_X2_34 hW.1 (hR _ _ _ (rt_L7 hW)) ?_
            refine wp_iload (pc := 56) dX2_degree_56 rfl ?_
            refine wf_iald (pc := 58) (j := x) dX2_degree_58 hW.2.2.2.2 hnx (by omega) ?_
            rw [(hx.2.2.2.2.2 x h37).2.2, hpx.1]
            refine wp_istore (pc := 59) (L' := [_, _, _, _, _, _, _]) dX2_degree_59 (Nat.le_of_ble_eq_true rfl) rfl rfl ?_
            refine wp_iinc1 (pc := 61) (L' := [_, _, _, _, _, _, _]) dX2_degree_61 rfl rfl rfl ?_
            refine wp_goto (pc := 64) 25 dX2_degree_64 (by decide) ?_
            exact ih (j + 1) _ (by omega) (by omega) hpx.2 hb
          · rw [hnx] at h43
            have h43 : u = x := (nI_eq (by omega) (by omega)).mp h43
            rw [if_pos h43] at hb
            refine wp_iload (pc := 46) dX2_degree_46 rfl ?_
            refine wp_iload (pc := 48) dX2_degree_48 rfl ?_
            refine wp_iadd (pc := 50) dX2_degree_50 ?_
            refine wf_iret (pc := 51) dX2_degree_51 rfl ?_
            have e9 : G ≠ 9 := by omega
            have e8 := hin e9
            exact ⟨by rw [← e8.2, ← hb, nI_add, nv_n (by omega)], rfl⟩
  have loop : ∀ (n i u : Nat), n = 4 - i → i ≤ 4 → (u = 9 ∨ u < lD Λ) → dgO (pq (lPa Λ)) (lD Λ) n i u o0 = B → ∀ z1 z2, Wp E K mX2_degree 1 (0, 0) 5 [some (.ref (K.1 + w)), some (.int (nI d0)), some (.int (nI o0)), some (.int (nv u)), some (.int (nI i)), z1, z2] [] 168 M 0 0 (zI E K (fun r M' => r = nv B ∧ M' = M)) := by
    intro n
    induction n with
    | zero =>
      intro i u hn hi hu9 hb z1 z2
      refine wp_iload (pc := 5) dX2_degree_5 rfl ?_
      refine wp_ic (pc := 7) (x := nI 4) dX2_degree_7 ic_4 ?_
      refine wp_icmp_ge (pc := 8) 80 dX2_degree_8 (by decide) (fun h8 => ?_) (fun h8 => ?_)
      · refine wp_bipush (pc := 80) (x := (-9)) dX2_degree_80 bp_m9 ?_
        refine wf_iret (pc := 82) dX2_degree_82 rfl ?_
        exact ⟨by rw [← hb] <;> rfl, rfl⟩
      · exact absurd (nI_le (by omega) (by omega)) h8
    | succ n ih =>
      intro i u hn hi hu9 hb z1 z2
      have k67 : u < lD Λ → dgI (pq (lPa Λ)) (lD Λ) 4 0 u o0 = 9 → ∀ z1 z2, Wp E K mX2_degree 1 (0, 0) 67 [some (.ref (K.1 + w)), some (.int (nI d0)), some (.int (nI o0)), some (.int (nI u)), some (.int (nI i)), z1, z2] [] 168 M 0 0 (zI E K (fun r M' => r = nv B ∧ M' = M)) := by
        intro hu e9 z1 z2
        have hpx := pq_ok hp hL hu
        simp only [dgO, hu, e9, if_true] at hb
        refine wp_aload_n (pc := 67) dX2_degree_67 rfl ?_
        refine wf_getR (pc := 68) dX2_degree_68 fl_X2_34 hW.1 (hR _ _ _ (rt_L7 hW)) ?_
        refine wp_iload_n (pc := 71) dX2_degree_71 rfl ?_
        refine wf_iald (pc := 72) (j := u) dX2_degree_72 hW.2.2.2.2 rfl (by omega) ?_
        rw [(hx.2.2.2.2.2 u hu).2.2, hpx.1]
        refine wp_istore_n (pc := 73) (L' := [_, _, _, _, _, _, _]) dX2_degree_73 (Nat.le_of_ble_eq_true rfl) rfl rfl ?_
        refine wp_iinc1 (pc := 74) (L' := [_, _, _, _, _, _, _]) dX2_degree_74 rfl rfl rfl ?_
        refine wp_goto (pc := 77) 5 dX2_degree_77 (by decide) ?_
        exact ih (i + 1) _ (by omega) (by omega) hpx.2 hb _ _
      refine wp_iload (pc := 5) dX2_degree_5 rfl ?_
      refine wp_ic (pc := 7) (x := nI 4) dX2_degree_7 ic_4 ?_
      refine wp_icmp_ge (pc := 8) 80 dX2_degree_8 (by decide) (fun h8 => ?_) (fun h8 => ?_)
      · exact absurd h8 (nI_ge (by omega) (by omega))
      · refine wp_aload_n (pc := 11) dX2_degree_11 rfl ?_
        refine wp_iload_n (pc := 12) dX2_degree_12 rfl ?_
        refine wf_callVi (pc := 13) dX2_degree_13 cl_X2_53 (c_hasDog hW hR hL hx) hW.1 rfl rfl rfl rfl (Nat.le_of_ble_eq_true rfl) (by decide) ⟨Nat.le_refl _, Nat.le_refl _⟩ (fun r13 M13 q13 => ?_)
        rw [q13.1, q13.2, nv_in hL.1 hu9]
        refine wp_if_eq (pc := 16) 80 dX2_degree_16 (by decide) (fun h16 => ?_) (fun h16 => ?_)
        · have h16 := b2i_0 h16
          have h16 := of_decide_eq_false h16
          simp only [dgO, h16, if_false] at hb
          refine wp_bipush (pc := 80) (x := (-9)) dX2_degree_80 bp_m9 ?_
          refine wf_iret (pc := 82) dX2_degree_82 rfl ?_
          exact ⟨by rw [← hb] <;> rfl, rfl⟩
        · have h16 := b2i_1 h16
          have h16 := of_decide_eq_true h16
          simp only [dgO, h16, if_true] at hb
          have hpx := pq_ok hp hL h16
          have hnx : nv u = nI u := nv_n (by omega)
          rw [hnx]
          refine wp_iload_n (pc := 19) dX2_degree_19 rfl ?_
          refine wp_istore (pc := 20) (L' := [_, _, _, _, _, _, _]) dX2_degree_20 (Nat.le_of_ble_eq_true rfl) rfl rfl ?_
          refine wp_ic (pc := 22) (x := nI 0) dX2_degree_22 ic_0 ?_
          refine wp_istore (pc := 23) (L' := [_, _, _, _, _, _, _]) dX2_degree_23 (Nat.le_of_ble_eq_true rfl) rfl rfl ?_
          have g := inner u i _ h16 (by omega) (fun e9 => k67 h16 e9) (fun e9 => by rw [if_neg e9] at hb; exact ⟨by rcases dgI_le (pq (lPa Λ)) (lD Λ) 4 0 u o0 (by omega) with e | e; exact absurd e e9; exact e, hb⟩) 4 0 o0 (by omega) (by omega) (Or.inr ho0) rfl
          rw [nv_n (show o0 ≠ 9 by omega)] at g
          exact g
  refine wp_iload_n (pc := 0) dX2_degree_0 rfl ?_
  refine wp_istore_n (pc := 1) (L' := [_, _, _, _, _, _, _]) dX2_degree_1 (Nat.le_of_ble_eq_true rfl) rfl rfl ?_
  refine wp_ic (pc := 2) (x := nI 0) dX2_degree_2 ic_0 ?_
  refine wp_istore (pc := 3) (L' := [_, _, _, _, _, _, _]) dX2_degree_3 (Nat.le_of_ble_eq_true rfl) rfl rfl ?_
  have g := loop 4 0 d0 (by omega) (by omega) (Or.inr hd0) hB none none
  rw [nv_n (show d0 ≠ 9 by omega)] at g
  exact g
theorem c_inheritsBefore {l : Launch} {K : CtxT} {M : Mm} {w : Nat} {Λ : Lw} (hW : IL w) (hR : RS M) (hL : OkN Λ) (hx : XL M w Λ) (hp : PaOk Λ) {d o b : Nat} (hd : d < lD Λ) (ho : o < lD Λ) (hb : b = 9 ∨ b < lD Λ) : Ci l K 2 mX2_inheritsBefore [.ref (K.1 + w), .int (nI d), .int (nI o), .int (nv b)] M (fun rv M' => rv = b2i (inhB Λ d o b) ∧ M' = M) := by
  have hD := hL.1
  refine ci_of (L := [some (.ref (K.1 + w)), some (.int (nI d)), some (.int (nI o)), some (.int (nv b)), none]) (by decide +kernel) (Nat.le_of_ble_eq_true rfl) rfl rfl (fun E => ?_)
  refine wp_aload_n (pc := 0) dX2_inheritsBefore_0 rfl ?_
  refine wp_iload_n (pc := 1) dX2_inheritsBefore_1 rfl ?_
  refine wf_callVi (pc := 2) dX2_inheritsBefore_2 cl_X2_53 (c_hasDog hW hR hL hx) hW.1 rfl rfl rfl rfl (Nat.le_of_ble_eq_true rfl) (by decide) ⟨Nat.le_refl _, Nat.le_refl _⟩ (fun r2 M2 q2 => ?_)
  rw [q2.1, q2.2, nv_in hL.1 hb]
  refine wp_if_ne (pc := 5) 10 dX2_inheritsBefore_5 (by decide) (fun h5 => ?_) (fun h5 => ?_)
  · have h5 := b2i_1 h5
    have h5 := of_decide_eq_true h5
    rw [nv_n (show b ≠ 9 by omega)]
    refine wp_aload_n (pc := 10) dX2_inheritsBefore_10 rfl ?_
    refine wp_iload_n (pc := 11) dX2_inheritsBefore_11 rfl ?_
    refine wp_iload_n (pc := 12) dX2_inheritsBefore_12 rfl ?_
    refine wf_callVi (pc := 13) dX2_inheritsBefore_13 cl_X2_57 (c_degree hW hR hL hx hp hd h5) hW.1 rfl rfl rfl rfl (Nat.le_of_ble_eq_true rfl) (by decide) ⟨Nat.le_refl _, Nat.le_refl _⟩ (fun r13 M13 q13 => ?_)
    rw [q13.1, q13.2]
    refine wp_aload_n (pc := 16) dX2_inheritsBefore_16 rfl ?_
    refine wp_iload_n (pc := 17) dX2_inheritsBefore_17 rfl ?_
    refine wp_iload_n (pc := 18) dX2_inheritsBefore_18 rfl ?_
    refine wf_callVi (pc := 19) dX2_inheritsBefore_19 cl_X2_57 (c_degree hW hR hL hx hp hd ho) hW.1 rfl rfl rfl rfl (Nat.le_of_ble_eq_true rfl) (by decide) ⟨Nat.le_refl _, Nat.le_refl _⟩ (fun r19 M19 q19 => ?_)
    rw [q19.1, q19.2]
    refine wp_isub (pc := 22) dX2_inheritsBefore_22 ?_
    refine wp_istore (pc := 23) (L' := [_, _, _, _, _]) dX2_inheritsBefore_23 (Nat.le_of_ble_eq_true rfl) rfl rfl ?_
    refine wp_iload (pc := 25) dX2_inheritsBefore_25 rfl ?_
    refine wp_if_gt (pc := 27) 50 dX2_inheritsBefore_27 (by decide) (fun h27 => ?_) (fun h27 => ?_)
    · refine wp_ic (pc := 50) (x := nI 1) dX2_inheritsBefore_50 ic_1 ?_
      refine wp_goto (pc := 51) 55 dX2_inheritsBefore_51 (by decide) ?_
      refine wf_zret (pc := 55) (true) dX2_inheritsBefore_55 rfl rfl ?_
      refine ⟨?_, rfl⟩
      first | (simp [inhB, h5]; done) | (simp only [inhB, h5, h27, decide_true, Bool.true_or, Bool.or_true]; done) | (simp only [inhB, h5, h27, h32, decide_true, decide_false, Bool.not_true, Bool.false_or, Bool.false_and]; done) | (have h47 := Int32.not_le.mp h47; simp only [inhB, h5, h27, h32, h47, show ¬ (0 : Int32) < 0 by decide, decide_true, decide_false, Bool.not_true, Bool.false_or, Bool.true_and]; done) | (have h47 := Int32.not_lt.mpr h47; simp only [inhB, h5, h27, h32, h47, show ¬ (0 : Int32) < 0 by decide, decide_true, decide_false, Bool.not_true, Bool.false_or, Bool.true_and, Bool.and_false]; done)
    · refine wp_iload (pc := 30) dX2_inheritsBefore_30 rfl ?_
      refine wp_if_ne (pc := 32) 54 dX2_inheritsBefore_32 (by decide) (fun h32 => ?_) (fun h32 => ?_)
      · refine wp_ic (pc := 54) (x := nI 0) dX2_inheritsBefore_54 ic_0 ?_
        refine wf_zret (pc := 55) (false) dX2_inheritsBefore_55 rfl rfl ?_
        refine ⟨?_, rfl⟩
        first | (simp [inhB, h5]; done) | (simp only [inhB, h5, h27, decide_true, Bool.true_or, Bool.or_true]; done) | (simp only [inhB, h5, h27, h32, decide_true, decide_false, Bool.not_true, Bool.false_or, Bool.false_and]; done) | (have h47 := Int32.not_le.mp h47; simp only [inhB, h5, h27, h32, h47, show ¬ (0 : Int32) < 0 by decide, decide_true, decide_false, Bool.not_true, Bool.false_or, Bool.true_and]; done) | (have h47 := Int32.not_lt.mpr h47; simp only [inhB, h5, h27, h32, h47, show ¬ (0 : Int32) < 0 by decide, decide_true, decide_false, Bool.not_true, Bool.false_or, Bool.true_and, Bool.and_false]; done)
      · refine wp_aload_n (pc := 35) dX2_inheritsBefore_35 rfl ?_
        refine wf_getR (pc := 36) dX2_inheritsBefore_36 fl_X2_28 hW.1 (hR _ _ _ (rt_L5 hW)) ?_
        refine wp_iload_n (pc := 39) dX2_inheritsBefore_39 rfl ?_
        refine wf_iald (pc := 40) (j := o) dX2_inheritsBefore_40 hW.2.2.1 rfl (by omega) ?_
        rw [(hx.2.2.2.2.2 o ho).1]
        refine wp_aload_n (pc := 41) dX2_inheritsBefore_41 rfl ?_
        refine wf_getR (pc := 42) dX2_inheritsBefore_42 fl_X2_28 hW.1 (hR _ _ _ (rt_L5 hW)) ?_
        refine wp_iload_n (pc := 45) dX2_inheritsBefore_45 rfl ?_
        refine wf_iald (pc := 46) (j := b) dX2_inheritsBefore_46 hW.2.2.1 rfl (by omega) ?_
        rw [(hx.2.2.2.2.2 b h5).1]
        refine wp_icmp_le (pc := 47) 54 dX2_inheritsBefore_47 (by decide) (fun h47 => ?_) (fun h47 => ?_)
        · refine wp_ic (pc := 54) (x := nI 0) dX2_inheritsBefore_54 ic_0 ?_
          refine wf_zret (pc := 55) (false) dX2_inheritsBefore_55 rfl rfl ?_
          refine ⟨?_, rfl⟩
          first | (simp [inhB, h5]; done) | (simp only [inhB, h5, h27, decide_true, Bool.true_or, Bool.or_true]; done) | (simp only [inhB, h5, h27, h32, decide_true, decide_false, Bool.not_true, Bool.false_or, Bool.false_and]; done) | (have h47 := Int32.not_le.mp h47; simp only [inhB, h5, h27, h32, h47, show ¬ (0 : Int32) < 0 by decide, decide_true, decide_false, Bool.not_true, Bool.false_or, Bool.true_and]; done) | (have h47 := Int32.not_lt.mpr h47; simp only [inhB, h5, h27, h32, h47, show ¬ (0 : Int32) < 0 by decide, decide_true, decide_false, Bool.not_true, Bool.false_or, Bool.true_and, Bool.and_false]; done)
        · refine wp_ic (pc := 50) (x := nI 1) dX2_inheritsBefore_50 ic_1 ?_
          refine wp_goto (pc := 51) 55 dX2_inheritsBefore_51 (by decide) ?_
          refine wf_zret (pc := 55) (true) dX2_inheritsBefore_55 rfl rfl ?_
          refine ⟨?_, rfl⟩
          first | (simp [inhB, h5]; done) | (simp only [inhB, h5, h27, decide_true, Bool.true_or, Bool.or_true]; done) | (simp only [inhB, h5, h27, h32, decide_true, decide_false, Bool.not_true, Bool.false_or, Bool.false_and]; done) | (have h47 := Int32.not_le.mp h47; simp only [inhB, h5, h27, h32, h47, show ¬ (0 : Int32) < 0 by decide, decide_true, decide_false, Bool.not_true, Bool.false_or, Bool.true_and]; done) | (have h47 := Int32.not_lt.mpr h47; simp only [inhB, h5, h27, h32, h47, show ¬ (0 : Int32) < 0 by decide, decide_true, decide_false, Bool.not_true, Bool.false_or, Bool.true_and, Bool.and_false]; done)
  · have h5 := b2i_0 h5
    have h5 := of_decide_eq_false h5
    refine wp_ic (pc := 8) (x := nI 1) dX2_inheritsBefore_8 ic_1 ?_
    refine wf_zret (pc := 9) (true) dX2_inheritsBefore_9 rfl rfl ?_
    refine ⟨?_, rfl⟩
    first | (simp [inhB, h5]; done) | (simp only [inhB, h5, h27, decide_true, Bool.true_or, Bool.or_true]; done) | (simp only [inhB, h5, h27, h32, decide_true, decide_false, Bool.not_true, Bool.false_or, Bool.false_and]; done) | (have h47 := Int32.not_le.mp h47; simp only [inhB, h5, h27, h32, h47, show ¬ (0 : Int32) < 0 by decide, decide_true, decide_false, Bool.not_true, Bool.false_or, Bool.true_and]; done) | (have h47 := Int32.not_lt.mpr h47; simp only [inhB, h5, h27, h32, h47, show ¬ (0 : Int32) < 0 by decide, decide_true, decide_false, Bool.not_true, Bool.false_or, Bool.true_and, Bool.and_false]; done)
theorem c_perilAt {l : Launch} {K : CtxT} {M : Mm} {t w : Nat} {Λ : Lw} {P : Pg} (hT : IT t) (hW : IL w) (hR : RS M) (hL : OkN Λ) (hx : XL M w Λ) (ht : XT M t Λ P) {d h k : Nat} (hd : d < 4) (hk : k < 10) (hh : P 24 = nI h) (hb : h + k < 2 ^ 31) : Ci l K 2 mX7_perilAt [.ref (K.1 + t), .ref (K.1 + w), .int (nI d), .int (nI k)] M (fun rv M' => rv = perP Λ P d h k ∧ M' = M) := by
  have hN := hL.2.1
  refine ci_of (L := [some (.ref (K.1 + t)), some (.ref (K.1 + w)), some (.int (nI d)), some (.int (nI k)), none, none]) (by decide +kernel) (Nat.le_of_ble_eq_true rfl) rfl rfl (fun E => ?_)
  have loop : ∀ (n m : Nat), n = lM Λ - m → m ≤ lM Λ →  (∀ o, o < m → perB Λ P d k (decide (lLe Λ ≤ nI ((h + k) % 12))) o = false) → Wp E K mX7_perilAt 2 (0, 0) 18 [some (.ref (K.1 + t)), some (.ref (K.1 + w)), some (.int (nI d)), some (.int (nI k)), some (.int (b2i (decide (lLe Λ ≤ nI ((h + k) % 12))))), some (.int (nI m))] [] 168 M 0 0 (zI E K (fun rv M' => rv = perP Λ P d h k ∧ M' = M)) := by
    intro n
    induction n with
    | zero =>
      intro m hn hm hf
      refine wp_iload (pc := 18) dX7_perilAt_18 rfl ?_
      refine wp_aload_n (pc := 20) dX7_perilAt_20 rfl ?_
      refine wf_getI (pc := 21) dX7_perilAt_21 fl_X7_40 hW.1 ?_
      rw [hx.2.1]
      refine wp_icmp_ge (pc := 24) 78 dX7_perilAt_24 (by decide) (fun h24 => ?_) (fun h24 => ?_)
      · have e : m = lM Λ := by omega
        subst e
        refine wp_bipush (pc := 78) (x := (-9)) dX7_perilAt_78 bp_m9 ?_
        refine wf_iret (pc := 80) dX7_perilAt_80 rfl ?_
        exact ⟨by unfold perP; rw [anyN_f hf]; rfl, rfl⟩
      · exact absurd (nI_le (by omega) (by omega)) h24
    | succ n ih =>
      intro m hn hm hf
      refine wp_iload (pc := 18) dX7_perilAt_18 rfl ?_
      refine wp_aload_n (pc := 20) dX7_perilAt_20 rfl ?_
      refine wf_getI (pc := 21) dX7_perilAt_21 fl_X7_40 hW.1 ?_
      rw [hx.2.1]
      refine wp_icmp_ge (pc := 24) 78 dX7_perilAt_24 (by decide) (fun h24 => ?_) (fun h24 => ?_)
      · exact absurd h24 (nI_ge (by omega) (by omega))
      · refine wp_aload_n (pc := 27) dX7_perilAt_27 rfl ?_
        refine wf_getR (pc := 28) dX7_perilAt_28 fl_X7_25 hT.1 (hR _ _ _ (rt_T4 hT)) ?_
        refine wp_iload (pc := 31) dX7_perilAt_31 rfl ?_
        refine wf_iald (pc := 33) (j := m) dX7_perilAt_33 hT.2.2.2.1 rfl (by omega) ?_
        rw [(ht.2.2.2 m (by omega)).1]
        refine wp_iload_n (pc := 34) dX7_perilAt_34 rfl ?_
        refine wp_icmp_ne (pc := 35) 72 dX7_perilAt_35 (by decide) (fun h35 => ?_) (fun h35 => ?_)
        · have e2 : perB Λ P d k (decide (lLe Λ ≤ nI ((h + k) % 12))) m = false := by simp [perB, h35]
          refine wp_iinc1 (pc := 72) (L' := [_, _, _, _, _, _]) dX7_perilAt_72 rfl rfl rfl ?_
          refine wp_goto (pc := 75) 18 dX7_perilAt_75 (by decide) ?_
          exact ih (m + 1) (by omega) (by omega) (fun o ho => by rcases Nat.lt_succ_iff_lt_or_eq.mp ho with q | rfl; exact hf o q; exact e2)
        · refine wp_aload_n (pc := 38) dX7_perilAt_38 rfl ?_
          refine wf_getR (pc := 39) dX7_perilAt_39 fl_X7_31 hT.1 (hR _ _ _ (rt_T6 hT)) ?_
          refine wp_iload (pc := 42) dX7_perilAt_42 rfl ?_
          refine wf_iald (pc := 44) (j := m) dX7_perilAt_44 hT.2.2.2.2.2 rfl (by omega) ?_
          rw [(ht.2.2.2 m (by omega)).2.2]
          refine wp_iload_n (pc := 45) dX7_perilAt_45 rfl ?_
          refine wp_icmp_gt (pc := 46) 72 dX7_perilAt_46 (by decide) (fun h46 => ?_) (fun h46 => ?_)
          · have e2 : perB Λ P d k (decide (lLe Λ ≤ nI ((h + k) % 12))) m = false := by have := Int32.not_le.mpr h46; simp [perB, this]
            refine wp_iinc1 (pc := 72) (L' := [_, _, _, _, _, _]) dX7_perilAt_72 rfl rfl rfl ?_
            refine wp_goto (pc := 75) 18 dX7_perilAt_75 (by decide) ?_
            exact ih (m + 1) (by omega) (by omega) (fun o ho => by rcases Nat.lt_succ_iff_lt_or_eq.mp ho with q | rfl; exact hf o q; exact e2)
          · refine wp_aload_n (pc := 49) dX7_perilAt_49 rfl ?_
            refine wp_aload_n (pc := 50) dX7_perilAt_50 rfl ?_
            refine wp_iload (pc := 51) dX7_perilAt_51 rfl ?_
            refine wp_iload (pc := 53) dX7_perilAt_53 rfl ?_
            refine wf_callVi (pc := 55) dX7_perilAt_55 cl_X7_80 (c_mayBeCaught hT hW hR hL hx ht (show m < lM Λ by omega)) hT.1 rfl rfl rfl rfl (Nat.le_of_ble_eq_true rfl) (by decide) ⟨Nat.le_refl _, Nat.le_refl _⟩ (fun r55 M55 q55 => ?_)
            rw [q55.1, q55.2]
            refine wp_if_eq (pc := 58) 72 dX7_perilAt_58 (by decide) (fun h58 => ?_) (fun h58 => ?_)
            · have h58 := b2i_0 h58
              have e2 : perB Λ P d k (decide (lLe Λ ≤ nI ((h + k) % 12))) m = false := by simp [perB, h58]
              refine wp_iinc1 (pc := 72) (L' := [_, _, _, _, _, _]) dX7_perilAt_72 rfl rfl rfl ?_
              refine wp_goto (pc := 75) 18 dX7_perilAt_75 (by decide) ?_
              exact ih (m + 1) (by omega) (by omega) (fun o ho => by rcases Nat.lt_succ_iff_lt_or_eq.mp ho with q | rfl; exact hf o q; exact e2)
            · have h58 := b2i_1 h58
              have h46 := Int32.not_lt.mp h46
              have e2 : perB Λ P d k (decide (lLe Λ ≤ nI ((h + k) % 12))) m = true := by simp [perB, h35, h46, h58]
              refine wp_aload_n (pc := 61) dX7_perilAt_61 rfl ?_
              refine wp_aload_n (pc := 62) dX7_perilAt_62 rfl ?_
              refine wf_getI (pc := 63) dX7_perilAt_63 fl_X7_9 hT.1 ?_
              rw [ht.1, hh]
              refine wp_iload_n (pc := 66) dX7_perilAt_66 rfl ?_
              refine wp_iadd (pc := 67) dX7_perilAt_67 ?_
              rw [nI_add]
              refine wf_callVi (pc := 68) dX7_perilAt_68 cl_X7_69 (c_wardenAt hW hR hL hx hb) hW.1 rfl rfl rfl rfl (Nat.le_of_ble_eq_true rfl) (by decide) ⟨Nat.le_refl _, Nat.le_refl _⟩ (fun r68 M68 q68 => ?_)
              rw [q68.1, q68.2]
              refine wf_iret (pc := 71) dX7_perilAt_71 rfl ?_
              exact ⟨by unfold perP; rw [anyN_t (show m < lM Λ by omega) e2] <;> rfl, rfl⟩
  refine wp_aload_n (pc := 0) dX7_perilAt_0 rfl ?_
  refine wf_getI (pc := 1) dX7_perilAt_1 fl_X7_9 hT.1 ?_
  rw [ht.1, hh]
  refine wp_iload_n (pc := 4) dX7_perilAt_4 rfl ?_
  refine wp_iadd (pc := 5) dX7_perilAt_5 ?_
  rw [nI_add]
  refine wp_aload_n (pc := 6) dX7_perilAt_6 rfl ?_
  refine wf_getI (pc := 7) dX7_perilAt_7 fl_X7_101 hW.1 ?_
  rw [hx.2.2.1]
  refine wf_callSi (pc := 10) dX7_perilAt_10 cl_X7_72 (c_isLate hb) rfl rfl (Nat.le_of_ble_eq_true rfl) (by decide) ⟨Nat.le_refl _, Nat.le_refl _⟩ (fun r10 M10 q10 => ?_)
  rw [q10.1, q10.2]
  refine wp_istore (pc := 13) (L' := [_, _, _, _, _, _]) dX7_perilAt_13 (Nat.le_of_ble_eq_true rfl) rfl rfl ?_
  refine wp_ic (pc := 15) (x := nI 0) dX7_perilAt_15 ic_0 ?_
  refine wp_istore (pc := 16) (L' := [_, _, _, _, _, _]) dX7_perilAt_16 (Nat.le_of_ble_eq_true rfl) rfl rfl ?_
  exact loop (lM Λ) 0 (by omega) (by omega) (fun o ho => absurd ho (by omega))
