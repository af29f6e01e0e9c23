/-! what was seen -/
abbrev Sg : Type := Nat × (Nat → Nat) × (Nat → Nat) × (Nat → Nat)
def OkS (σ : Sg) : Prop := σ.1 ≤ 6 ∧ ∀ i, i < σ.1 → σ.2.1 i < 5 ∧ σ.2.2.1 i < 5 ∧ σ.2.2.2 i < 12
def XS (M : Mm) (σ : Sg) : Prop := M.1 144 0 = nI σ.1 ∧ ∀ i, i < σ.1 → M.1 145 i = nI (σ.2.1 i) ∧ M.1 146 i = nI (σ.2.2.1 i) ∧ M.1 147 i = nI (σ.2.2.2 i)
def addS (σ : Sg) (m s t : Nat) : Sg := (σ.1 + 1, fun i => if i = σ.1 then m else σ.2.1 i, fun i => if i = σ.1 then s else σ.2.2.1 i, fun i => if i = σ.1 then t else σ.2.2.2 i)
theorem XS.si {M M' : Mm} {lo hi : Nat} {σ : Sg} (h : XS M σ) (s : Si lo hi M M') (ho : 148 ≤ lo ∨ hi ≤ 144) : XS M' σ := by
  refine ⟨(s 144 (by omega) 0).trans h.1, fun i hi => ?_⟩
  rw [s 145 (by omega), s 146 (by omega), s 147 (by omega)]
  exact h.2 i hi
def oddB (Λ : Lw) (d : Nat) : Bool := decide ((lRa Λ d).toNatClampNeg % 2 = 1)
/-- where a man was at an hour by a company (a dog's number, or more: nobody) -/
def swN (Λ : Lw) (P : Pg) (m c t : Nat) : Nat := if c < lD Λ then (sN P c + (if oddB Λ c = true then t else 0)) % 5 else sN P (13 + m)
def badB (Λ : Lw) (P : Pg) (σ : Sg) (m c i : Nat) : Bool := decide (σ.2.1 i = m) && !decide (σ.2.2.1 i = swN Λ P m c (σ.2.2.2 i))
def fitB (Λ : Lw) (P : Pg) (σ : Sg) (m c : Nat) : Bool := !anyN σ.1 (badB Λ P σ m c)
def mayN (Λ : Lw) (P : Pg) (σ : Sg) (m : Nat) : Nat → Nat
  | 0 => if fitB Λ P σ m 4 = true then 16 else 0
  | n + 1 => mayN Λ P σ m n ||| (if fitB Λ P σ m n = true then 2 ^ n else 0)
def sumF (f : Nat → Nat) : Nat → Nat
  | 0 => 0
  | k + 1 => sumF f k + f k
def less (room : Nat → Nat) (d : Nat) : Nat → Nat := fun e => if e = d then room e - 1 else room e
def shN (may : Nat → Nat) (D : Nat) : Nat → Nat → (Nat → Nat) → Nat
  | 0, _, _ => 1
  | n + 1, j, room => (if (may j).testBit 4 = true then shN may D n (j + 1) room else 0) + sumF (fun d => if (may j).testBit d = true ∧ 0 < room d then shN may D n (j + 1) (less room d) else 0) D
theorem sumF_le {f : Nat → Nat} {b : Nat} (h : ∀ d, f d ≤ b) : ∀ k, sumF f k ≤ k * b
  | 0 => by simp [sumF]
  | k + 1 => by
    have := sumF_le h k
    have := h k
    unfold sumF
    rw [Nat.add_mul, Nat.one_mul]
    omega
theorem shN_le (may : Nat → Nat) {D : Nat} (hD : D ≤ 4) : ∀ n j room, shN may D n j room ≤ 5 ^ n
  | 0, _, _ => by simp [shN]
  | n + 1, j, room => by
    have ih := shN_le may hD n
    have h1 : ∀ d, (if (may j).testBit d = true ∧ 0 < room d then shN may D n (j + 1) (less room d) else 0) ≤ 5 ^ n := fun d => by
      split
      · exact ih _ _
      · exact Nat.zero_le _
    have h2 := sumF_le h1 D
    have h3 : (if (may j).testBit 4 = true then shN may D n (j + 1) room else 0) ≤ 5 ^ n := by
      split
      · exact ih _ _
      · exact Nat.zero_le _
    have h4 : D * 5 ^ n ≤ 4 * 5 ^ n := Nat.mul_le_mul_right _ hD
    unfold shN
    rw [Nat.pow_succ]
    omega
theorem mm_ext {M M' : Mm} (h2 : M'.2 = M.2) (h : ∀ a k, M'.1 a k = M.1 a k) : M' = M := Prod.ext (funext fun a => funext fun k => h a k) h2
theorem bat_bit : ∀ a, a < 32 → ∀ c, c < 5 → (bat (nI a) c = nI 1 ↔ a.testBit c = true) := by decide +kernel
theorem c_add {l : Launch} {K : CtxT} {M : Mm} {σ : Sg} {m s t : Nat} (hR : RS M) (hσ : OkS σ) (hx : XS M σ) (hq : σ.1 < 6) : Cv l K 0 mX5_add [.ref (K.1 + 144), .int (nI m), .int (nI s), .int (nI t)] M (fun M' => XS M' (addS σ m s t) ∧ Sm 144 148 M M') := by
  refine cv_of (L := [some (.ref (K.1 + 144)), some (.int (nI m)), some (.int (nI s)), some (.int (nI t))]) (by decide +kernel) (Nat.le_of_ble_eq_true rfl) rfl rfl (fun E => ?_)
  refine wp_aload_n (pc := 0) dX5_add_0 rfl ?_
  refine wf_getI (pc := 1) dX5_add_1 fl_X5_9 lk_144 ?_
  rw [hx.1]
  refine wp_bipush (pc := 4) (x := nI 6) dX5_add_4 bp_6 ?_
  refine wp_icmp_ge (pc := 6) 49 dX5_add_6 (by decide) (fun h6 => ?_) (fun h6 => ?_)
  · exact absurd h6 (nI_ge (by omega) (by omega))
  · refine wp_aload_n (pc := 9) dX5_add_9 rfl ?_
    refine wf_getR (pc := 10) dX5_add_10 fl_X5_15 lk_144 (hR 144 1 145 rfl) ?_
    refine wp_aload_n (pc := 13) dX5_add_13 rfl ?_
    refine wf_getI (pc := 14) dX5_add_14 fl_X5_9 lk_144 ?_
    rw [hx.1]
    refine wp_iload_n (pc := 17) dX5_add_17 rfl ?_
    refine wf_iast (pc := 18) (j := σ.1) dX5_add_18 lk_145 rfl (by omega) ?_
    refine wp_aload_n (pc := 19) dX5_add_19 rfl ?_
    refine wf_getR (pc := 20) dX5_add_20 fl_X5_19 lk_144 (hR 144 2 146 rfl) ?_
    refine wp_aload_n (pc := 23) dX5_add_23 rfl ?_
    refine wf_getI (pc := 24) dX5_add_24 fl_X5_9 lk_144 ?_
    rw [show (wI M 145 σ.1 (nI m)).1 144 0 = M.1 144 0 from rfl, hx.1]
    refine wp_iload_n (pc := 27) dX5_add_27 rfl ?_
    refine wf_iast (pc := 28) (j := σ.1) dX5_add_28 lk_146 rfl (by omega) ?_
    refine wp_aload_n (pc := 29) dX5_add_29 rfl ?_
    refine wf_getR (pc := 30) dX5_add_30 fl_X5_22 lk_144 (hR 144 3 147 rfl) ?_
    refine wp_aload_n (pc := 33) dX5_add_33 rfl ?_
    refine wf_getI (pc := 34) dX5_add_34 fl_X5_9 lk_144 ?_
    rw [show (wI (wI M 145 σ.1 (nI m)) 146 σ.1 (nI s)).1 144 0 = M.1 144 0 from rfl, hx.1]
    refine wp_iload_n (pc := 37) dX5_add_37 rfl ?_
    refine wf_iast (pc := 38) (j := σ.1) dX5_add_38 lk_147 rfl (by omega) ?_
    refine wp_aload_n (pc := 39) dX5_add_39 rfl ?_
    refine wp_dup (pc := 40) dX5_add_40 rfl ?_
    refine wf_getI (pc := 41) dX5_add_41 fl_X5_9 lk_144 ?_
    rw [show (wI (wI (wI M 145 σ.1 (nI m)) 146 σ.1 (nI s)) 147 σ.1 (nI t)).1 144 0 = M.1 144 0 from rfl, hx.1]
    refine wp_ic (pc := 44) (x := nI 1) dX5_add_44 ic_1 ?_
    refine wp_iadd (pc := 45) dX5_add_45 ?_
    rw [nI_add]
    refine wf_putI (pc := 46) dX5_add_46 fl_X5_9 lk_144 ?_
    refine wf_vret (pc := 49) dX5_add_49 rfl ?_
    refine ⟨⟨wI_at _ _ _ _, fun i hi => ?_⟩, (((Sm.w (by omega) (by omega)).tr (Sm.w (by omega) (by omega))).tr (Sm.w (by omega) (by omega))).tr (Sm.w (by omega) (by omega))⟩
    have hi : i < σ.1 + 1 := hi
    by_cases e : i = σ.1
    · subst e; simp [addS, wI]
    · have := hx.2 i (by omega); simp [addS, wI, e, this]
theorem c_streetWith {l : Launch} {K : CtxT} {M : Mm} {Λ : Lw} {P : Pg} {h0 : Nat} (hR : RS M) (hL : OkL Λ) (hx : XL M 14 Λ) (ht : XT M 19 Λ P) (hP : OkP Λ P h0) {m c t : Nat} (hm : m < lM Λ) (hc : c < 5) (ht12 : t < 12) : Ci l K 1 mX5_streetWith [.ref (K.1 + 14), .ref (K.1 + 19), .int (nI m), .int (nI c), .int (nI t)] M (fun rv M' => rv = nI (swN Λ P m c t) ∧ M' = M) := by
  refine ci_of (L := [some (.ref (K.1 + 14)), some (.ref (K.1 + 19)), some (.int (nI m)), some (.int (nI c)), some (.int (nI t)), none]) (by decide +kernel) (Nat.le_of_ble_eq_true rfl) rfl rfl (fun E => ?_)
  have hN := hL.2.1
  have hD := hL.1
  have hin : inD (nI c) (lD Λ) = decide (c < lD Λ) := by
    by_cases q : c < lD Λ
    · rw [inD_nI (by omega) q]; simp [q]
    · simp only [q, decide_false]
      unfold inD
      simp [nI_le (show lD Λ ≤ c by omega) (by omega)]
  refine wp_aload_n (pc := 0) dX5_streetWith_0 rfl ?_
  refine wp_iload_n (pc := 1) dX5_streetWith_1 rfl ?_
  refine wf_callVi (pc := 2) dX5_streetWith_2 cl_X5_56 (c_hasDog IL_14 hR hL.N hx) IL_14.1 rfl rfl rfl rfl (Nat.le_of_ble_eq_true rfl) (by decide) ⟨Nat.le_refl _, Nat.le_refl _⟩ (fun r2 M2 q2 => ?_)
  rw [q2.1, q2.2, hin]
  refine wp_if_ne (pc := 5) 15 dX5_streetWith_5 (by decide) (fun h5 => ?_) (fun h5 => ?_)
  · have h5 := b2i_1 h5
    have h5 := of_decide_eq_true h5
    refine wp_aload_n (pc := 15) dX5_streetWith_15 rfl ?_
    refine wf_getR (pc := 16) dX5_streetWith_16 fl_X5_65 IL_14.1 (hR 14 5 16 rfl) ?_
    refine wp_iload_n (pc := 19) dX5_streetWith_19 rfl ?_
    refine wf_iald (pc := 20) (j := c) dX5_streetWith_20 IL_14.2.2.1 rfl (by omega) ?_
    obtain ⟨r0, hr0, er⟩ := (hL.2.2.2.2.1 c h5).1
    rw [(hx.2.2.2.2.2 c h5).1, er]
    refine wp_ic (pc := 21) (x := nI 2) dX5_streetWith_21 ic_2 ?_
    refine wp_iremN (pc := 22) dX5_streetWith_22 rfl rfl (by omega) (by decide) (by decide) ?_
    refine wp_ic (pc := 23) (x := nI 1) dX5_streetWith_23 ic_1 ?_
    refine wp_icmp_ne (pc := 24) 32 dX5_streetWith_24 (by decide) (fun h24 => ?_) (fun h24 => ?_)
    · have eo : oddB Λ c = false := by unfold oddB; rw [er, nI_clamp (by omega)]; exact decide_eq_false (fun q => h24 (by rw [q]))
      refine wp_ic (pc := 32) (x := nI 0) dX5_streetWith_32 ic_0 ?_
      refine wp_istore (pc := 33) (L' := [_, _, _, _, _, _]) dX5_streetWith_33 (Nat.le_of_ble_eq_true rfl) rfl rfl ?_
      refine wp_aload_n (pc := 35) dX5_streetWith_35 rfl ?_
      refine wf_getR (pc := 36) dX5_streetWith_36 fl_X5_68 IT_19.1 (hR 19 2 20 rfl) ?_
      refine wp_iload_n (pc := 39) dX5_streetWith_39 rfl ?_
      refine wf_iald (pc := 40) (j := c) dX5_streetWith_40 IT_19.2.1 rfl (by omega) ?_
      obtain ⟨s0, hs0, e0⟩ := hP.2.1 c h5
      have es : sN P c = s0 := by unfold sN; rw [e0, nI_clamp (by omega)]
      rw [(ht.2.2.1 c h5).1, e0]
      refine wp_iload (pc := 41) dX5_streetWith_41 rfl ?_
      refine wp_iadd (pc := 43) dX5_streetWith_43 ?_
      rw [nI_add]
      refine wp_ic (pc := 44) (x := nI 5) dX5_streetWith_44 ic_5 ?_
      refine wp_iremN (pc := 45) dX5_streetWith_45 rfl rfl (by omega) (by decide) (by decide) ?_
      refine wf_iret (pc := 46) dX5_streetWith_46 rfl ?_
      exact ⟨by unfold swN; rw [if_pos h5, es, eo] <;> rfl, rfl⟩
    · have eo : oddB Λ c = true := by unfold oddB; rw [er, nI_clamp (by omega)]; exact decide_eq_true ((nI_eq (by omega) (by decide)).mp h24)
      refine wp_iload (pc := 27) dX5_streetWith_27 rfl ?_
      refine wp_goto (pc := 29) 33 dX5_streetWith_29 (by decide) ?_
      refine wp_istore (pc := 33) (L' := [_, _, _, _, _, _]) dX5_streetWith_33 (Nat.le_of_ble_eq_true rfl) rfl rfl ?_
      refine wp_aload_n (pc := 35) dX5_streetWith_35 rfl ?_
      refine wf_getR (pc := 36) dX5_streetWith_36 fl_X5_68 IT_19.1 (hR 19 2 20 rfl) ?_
      refine wp_iload_n (pc := 39) dX5_streetWith_39 rfl ?_
      refine wf_iald (pc := 40) (j := c) dX5_streetWith_40 IT_19.2.1 rfl (by omega) ?_
      obtain ⟨s0, hs0, e0⟩ := hP.2.1 c h5
      have es : sN P c = s0 := by unfold sN; rw [e0, nI_clamp (by omega)]
      rw [(ht.2.2.1 c h5).1, e0]
      refine wp_iload (pc := 41) dX5_streetWith_41 rfl ?_
      refine wp_iadd (pc := 43) dX5_streetWith_43 ?_
      rw [nI_add]
      refine wp_ic (pc := 44) (x := nI 5) dX5_streetWith_44 ic_5 ?_
      refine wp_iremN (pc := 45) dX5_streetWith_45 rfl rfl (by omega) (by decide) (by decide) ?_
      refine wf_iret (pc := 46) dX5_streetWith_46 rfl ?_
      exact ⟨by unfold swN; rw [if_pos h5, es, eo] <;> rfl, rfl⟩
  · have h5 := b2i_0 h5
    have h5 := of_decide_eq_false h5
    refine wp_aload_n (pc := 8) dX5_streetWith_8 rfl ?_
    refine wf_getR (pc := 9) dX5_streetWith_9 fl_X5_60 IT_19.1 (hR 19 5 23 rfl) ?_
    refine wp_iload_n (pc := 12) dX5_streetWith_12 rfl ?_
    refine wf_iald (pc := 13) (j := m) dX5_streetWith_13 IT_19.2.2.2.2.1 rfl (by omega) ?_
    obtain ⟨s0, hs0, e0⟩ := (hP.2.2.1 m hm).2.1
    rw [(ht.2.2.2 m hm).2.1]
    refine wf_iret (pc := 14) dX5_streetWith_14 rfl ?_
    exact ⟨by unfold swN sN; rw [if_neg h5, e0, nI_clamp (by omega)], rfl⟩
theorem c_fits {l : Launch} {K : CtxT} {M : Mm} {Λ : Lw} {P : Pg} {h0 : Nat} (hR : RS M) (hL : OkL Λ) (hx : XL M 14 Λ) (ht : XT M 19 Λ P) (hP : OkP Λ P h0) {σ : Sg} (hσ : OkS σ) (hs : XS M σ) {m c : Nat} (hmN : m < lM Λ) (hc : c < 5) : Ci l K 2 mX5_fits [.ref (K.1 + 144), .ref (K.1 + 14), .ref (K.1 + 19), .int (nI m), .int (nI c)] M (fun rv M' => rv = b2i (fitB Λ P σ m c) ∧ M' = M) := by
  have hN := hL.2.1
  have hq := hσ.1
  refine ci_of (L := [some (.ref (K.1 + 144)), some (.ref (K.1 + 14)), some (.ref (K.1 + 19)), some (.int (nI m)), some (.int (nI c)), none]) (by decide +kernel) (Nat.le_of_ble_eq_true rfl) rfl rfl (fun E => ?_)
  have loop : ∀ (n i : Nat), n = σ.1 - i → i ≤ σ.1 →  (∀ o, o < i → (badB Λ P σ m c) o = false) → Wp E K mX5_fits 2 (0, 0) 3 [some (.ref (K.1 + 144)), some (.ref (K.1 + 14)), some (.ref (K.1 + 19)), some (.int (nI m)), some (.int (nI c)), some (.int (nI i))] [] 168 M 0 0 (zI E K (fun rv M' => rv = b2i (fitB Λ P σ m c) ∧ M' = M)) := by
    intro n
    induction n with
    | zero =>
      intro i hn hm hf
      refine wp_iload (pc := 3) dX5_fits_3 rfl ?_
      refine wp_aload_n (pc := 5) dX5_fits_5 rfl ?_
      refine wf_getI (pc := 6) dX5_fits_6 fl_X5_9 lk_144 ?_
      rw [hs.1]
      refine wp_icmp_ge (pc := 9) 56 dX5_fits_9 (by decide) (fun h9 => ?_) (fun h9 => ?_)
      · have e : i = σ.1 := by omega
        subst e
        refine wp_ic (pc := 56) (x := nI 1) dX5_fits_56 ic_1 ?_
        refine wf_zret (pc := 57) (true) dX5_fits_57 rfl rfl ?_
        refine ⟨?_, rfl⟩
        unfold fitB
        rw [anyN_f hf]
        rfl
      · exact absurd (nI_le (by omega) (by omega)) h9
    | succ n ih =>
      intro i hn hm hf
      refine wp_iload (pc := 3) dX5_fits_3 rfl ?_
      refine wp_aload_n (pc := 5) dX5_fits_5 rfl ?_
      refine wf_getI (pc := 6) dX5_fits_6 fl_X5_9 lk_144 ?_
      rw [hs.1]
      refine wp_icmp_ge (pc := 9) 56 dX5_fits_9 (by decide) (fun h9 => ?_) (fun h9 => ?_)
      · exact absurd h9 (nI_ge (by omega) (by omega))
      · refine wp_aload_n (pc := 12) dX5_fits_12 rfl ?_
        refine wf_getR (pc := 13) dX5_fits_13 fl_X5_15 lk_144 (hR 144 1 145 rfl) ?_
        refine wp_iload (pc := 16) dX5_fits_16 rfl ?_
        refine wf_iald (pc := 18) (j := i) dX5_fits_18 lk_145 rfl (by omega) ?_
        rw [(hs.2 i (by omega)).1]
        refine wp_iload_n (pc := 19) dX5_fits_19 rfl ?_
        refine wp_icmp_ne (pc := 20) 50 dX5_fits_20 (by decide) (fun h20 => ?_) (fun h20 => ?_)
        · have b0 := (hσ.2 i (by omega)).1
          have h20 : ¬ σ.2.1 i = m := fun q => h20 (by rw [q])
          have e2 : (badB Λ P σ m c) i = false := by simp [badB, h20]
          refine wp_iinc1 (pc := 50) (L' := [_, _, _, _, _, _]) dX5_fits_50 rfl rfl rfl ?_
          refine wp_goto (pc := 53) 3 dX5_fits_53 (by decide) ?_
          exact ih (i + 1) (by omega) (by omega) (fun o ho => by rcases Nat.lt_succ_iff_lt_or_eq.mp ho with q | rfl; exact hf o q; exact e2)
        · have b0 := (hσ.2 i (by omega)).1
          have h20 : σ.2.1 i = m := (nI_eq (by omega) (by omega)).mp h20
          refine wp_aload_n (pc := 23) dX5_fits_23 rfl ?_
          refine wf_getR (pc := 24) dX5_fits_24 fl_X5_19 lk_144 (hR 144 2 146 rfl) ?_
          refine wp_iload (pc := 27) dX5_fits_27 rfl ?_
          refine wf_iald (pc := 29) (j := i) dX5_fits_29 lk_146 rfl (by omega) ?_
          rw [(hs.2 i (by omega)).2.1]
          refine wp_aload_n (pc := 30) dX5_fits_30 rfl ?_
          refine wp_aload_n (pc := 31) dX5_fits_31 rfl ?_
          refine wp_iload_n (pc := 32) dX5_fits_32 rfl ?_
          refine wp_iload (pc := 33) dX5_fits_33 rfl ?_
          refine wp_aload_n (pc := 35) dX5_fits_35 rfl ?_
          refine wf_getR (pc := 36) dX5_fits_36 fl_X5_22 lk_144 (hR 144 3 147 rfl) ?_
          refine wp_iload (pc := 39) dX5_fits_39 rfl ?_
          refine wf_iald (pc := 41) (j := i) dX5_fits_41 lk_147 rfl (by omega) ?_
          rw [(hs.2 i (by omega)).2.2]
          refine wf_callSi (pc := 42) dX5_fits_42 cl_X5_52 (c_streetWith hR hL hx ht hP hmN hc (hσ.2 i (by omega)).2.2) rfl rfl (Nat.le_of_ble_eq_true rfl) (by decide) ⟨Nat.le_refl _, Nat.le_refl _⟩ (fun r42 M42 q42 => ?_)
          rw [q42.1, q42.2]
          have b1 := (hσ.2 i (by omega)).2.1
          have b2 : swN Λ P m c (σ.2.2.2 i) < 5 := by
            unfold swN
            split
            · exact Nat.mod_lt _ (by decide)
            · obtain ⟨s0, hs0, e0⟩ := (hP.2.2.1 m hmN).2.1
              unfold sN
              rw [e0, nI_clamp (by omega)]
              exact hs0
          refine wp_icmp_eq (pc := 45) 50 dX5_fits_45 (by decide) (fun h45 => ?_) (fun h45 => ?_)
          · have h45 := (nI_eq (by omega) (by omega)).mp h45
            have e2 : (badB Λ P σ m c) i = false := by simp [badB, h45]
            refine wp_iinc1 (pc := 50) (L' := [_, _, _, _, _, _]) dX5_fits_50 rfl rfl rfl ?_
            refine wp_goto (pc := 53) 3 dX5_fits_53 (by decide) ?_
            exact ih (i + 1) (by omega) (by omega) (fun o ho => by rcases Nat.lt_succ_iff_lt_or_eq.mp ho with q | rfl; exact hf o q; exact e2)
          · have h45 : ¬ σ.2.2.1 i = swN Λ P m c (σ.2.2.2 i) := fun q => h45 (by rw [q])
            have e2 : (badB Λ P σ m c) i = true := by simp [badB, h20, h45]
            refine wp_ic (pc := 48) (x := nI 0) dX5_fits_48 ic_0 ?_
            refine wf_zret (pc := 49) (false) dX5_fits_49 rfl rfl ?_
            refine ⟨?_, rfl⟩
            unfold fitB
            rw [anyN_t (show i < σ.1 by omega) e2]
            rfl
  refine wp_ic (pc := 0) (x := nI 0) dX5_fits_0 ic_0 ?_
  refine wp_istore (pc := 1) (L' := [_, _, _, _, _, _]) dX5_fits_1 (Nat.le_of_ble_eq_true rfl) rfl rfl ?_
  exact loop σ.1 0 (by omega) (by omega) (fun o ho => absurd ho (by omega))
theorem mayN_lt (Λ : Lw) (P : Pg) (σ : Sg) (m : Nat) : ∀ n, n ≤ 4 → mayN Λ P σ m n < 32
  | 0, _ => by unfold mayN; split <;> decide
  | n + 1, h => by
    have ih := mayN_lt Λ P σ m n (by omega)
    unfold mayN
    split
    · exact Nat.or_lt_two_pow (n := 5) ih (Nat.pow_lt_pow_right (by decide) (by omega))
    · simpa using ih
theorem or_0 {a : Nat} : nI a ||| nI 0 = nI (a ||| 0) := by
  apply Int32.toBitVec_inj.1
  show BitVec.ofNat 32 a ||| BitVec.ofNat 32 0 = BitVec.ofNat 32 (a ||| 0)
  simp
theorem c_look {l : Launch} {K : CtxT} {M : Mm} {Λ : Lw} {P : Pg} {h0 : Nat} (hR : RS M) (hL : OkL Λ) (hx : XL M 14 Λ) (ht : XT M 19 Λ P) (hP : OkP Λ P h0) {σ : Sg} (hσ : OkS σ) (hs : XS M σ) : Cv l K 3 mX5_look [.ref (K.1 + 144), .ref (K.1 + 14), .ref (K.1 + 19)] M (fun M' => Sm 148 150 M M' ∧ (∀ d, d < 4 → M'.1 149 d = M.1 17 d) ∧ ∀ m, m < lM Λ → M'.1 148 m = nI (mayN Λ P σ m (lD Λ))) := by
  have hN := hL.2.1
  have hD := hL.1
  have hq := hσ.1
  refine cv_of (L := [some (.ref (K.1 + 144)), some (.ref (K.1 + 14)), some (.ref (K.1 + 19)), none, none]) (by decide +kernel) (Nat.le_of_ble_eq_true rfl) rfl rfl (fun E => ?_)
  have loop : ∀ (n m : Nat) (M1 : Mm), n = lM Λ - m → m ≤ lM Λ → Sm 148 150 M M1 → (∀ d, d < 4 → M1.1 149 d = M.1 17 d) → (∀ j, j < m → M1.1 148 j = nI (mayN Λ P σ j (lD Λ))) → ∀ z, Wp E K mX5_look 3 (0, 0) 16 [some (.ref (K.1 + 144)), some (.ref (K.1 + 14)), some (.ref (K.1 + 19)), some (.int (nI m)), z] [] 168 M1 0 0 (zV E K (fun M' => Sm 148 150 M M' ∧ (∀ d, d < 4 → M'.1 149 d = M.1 17 d) ∧ ∀ m, m < lM Λ → M'.1 148 m = nI (mayN Λ P σ m (lD Λ)))) := by
    intro n
    induction n with
    | zero =>
      intro m M1 hn hm s1 hr1 hj1 z
      refine wp_iload_n (pc := 16) dX5_look_16 rfl ?_
      refine wp_aload_n (pc := 17) dX5_look_17 rfl ?_
      refine wf_getI (pc := 18) dX5_look_18 fl_X5_42 IL_14.1 ?_
      rw [(hx.sm s1 (by omega)).2.1]
      refine wp_icmp_ge (pc := 21) 100 dX5_look_21 (by decide) (fun h21 => ?_) (fun h21 => ?_)
      · have e : m = lM Λ := by omega
        subst e
        refine wf_vret (pc := 100) dX5_look_100 rfl ?_
        exact ⟨s1, hr1, hj1⟩
      · exact absurd (nI_le (by omega) (by omega)) h21
    | succ n ih =>
      intro m M1 hn hm s1 hr1 hj1 z
      have inner : ∀ (n2 d : Nat) (M2 : Mm), n2 = lD Λ - d → d ≤ lD Λ → Sm 148 150 M M2 → (∀ d, d < 4 → M2.1 149 d = M.1 17 d) → (∀ j, j < m → M2.1 148 j = nI (mayN Λ P σ j (lD Λ))) → M2.1 148 m = nI (mayN Λ P σ m d) → Wp E K mX5_look 3 (0, 0) 50 [some (.ref (K.1 + 144)), some (.ref (K.1 + 14)), some (.ref (K.1 + 19)), some (.int (nI m)), some (.int (nI d))] [] 168 M2 0 0 (zV E K (fun M' => Sm 148 150 M M' ∧ (∀ d, d < 4 → M'.1 149 d = M.1 17 d) ∧ ∀ m, m < lM Λ → M'.1 148 m = nI (mayN Λ P σ m (lD Λ)))) := by
        intro n2
        induction n2 with
        | zero =>
          intro d M2 hn2 hd2 s1 hr1 hj1 hm1
          refine wp_iload (pc := 50) dX5_look_50 rfl ?_
          refine wp_aload_n (pc := 52) dX5_look_52 rfl ?_
          refine wf_getI (pc := 53) dX5_look_53 fl_X5_49 IL_14.1 ?_
          rw [(hx.sm s1 (by omega)).1]
          refine wp_icmp_ge (pc := 56) 94 dX5_look_56 (by decide) (fun h56 => ?_) (fun h56 => ?_)
          · have e : d = lD Λ := by omega
            subst e
            refine wp_iinc1 (pc := 94) (L' := [_, _, _, _, _]) dX5_look_94 rfl rfl rfl ?_
            refine wp_goto (pc := 97) 16 dX5_look_97 (by decide) ?_
            exact ih (m + 1) M2 (by omega) (by omega) s1 hr1 (fun j hj => by rcases Nat.lt_succ_iff_lt_or_eq.mp hj with q | rfl; exact hj1 j q; exact hm1) _
          · exact absurd (nI_le (by omega) (by omega)) h56
        | succ n2 ih2 =>
          intro d M2 hn2 hd2 s1 hr1 hj1 hm1
          refine wp_iload (pc := 50) dX5_look_50 rfl ?_
          refine wp_aload_n (pc := 52) dX5_look_52 rfl ?_
          refine wf_getI (pc := 53) dX5_look_53 fl_X5_49 IL_14.1 ?_
          rw [(hx.sm s1 (by omega)).1]
          refine wp_icmp_ge (pc := 56) 94 dX5_look_56 (by decide) (fun h56 => ?_) (fun h56 => ?_)
          · exact absurd h56 (nI_ge (by omega) (by omega))
          · refine wp_aload_n (pc := 59) dX5_look_59 rfl ?_
            refine wf_getR (pc := 60) dX5_look_60 fl_X5_25 lk_144 ((s1.rs hR) 144 4 148 rfl) ?_
            refine wp_iload_n (pc := 63) dX5_look_63 rfl ?_
            refine wp_dup2 (pc := 64) dX5_look_64 rfl rfl ?_
            refine wf_iald (pc := 65) (j := m) dX5_look_65 lk_148 rfl (by omega) ?_
            rw [hm1]
            refine wp_aload_n (pc := 66) dX5_look_66 rfl ?_
            refine wp_aload_n (pc := 67) dX5_look_67 rfl ?_
            refine wp_aload_n (pc := 68) dX5_look_68 rfl ?_
            refine wp_iload_n (pc := 69) dX5_look_69 rfl ?_
            refine wp_iload (pc := 70) dX5_look_70 rfl ?_
            refine wf_callVi (pc := 72) dX5_look_72 cl_X5_45 (c_fits (s1.rs hR) hL (hx.sm s1 (by omega)) (ht.sm s1 (by omega)) hP hσ (hs.si s1.2 (by omega)) (show m < lM Λ by omega) (show d < 5 by omega)) lk_144 rfl rfl rfl rfl (Nat.le_of_ble_eq_true rfl) (by decide) ⟨Nat.le_refl _, Nat.le_refl _⟩ (fun r72 M72 q72 => ?_)
            rw [q72.1, q72.2]
            refine wp_if_eq (pc := 75) 85 dX5_look_75 (by decide) (fun h75 => ?_) (fun h75 => ?_)
            · have h75 := b2i_0 h75
              have e2 : nI (mayN Λ P σ m d) ||| nI 0 = nI (mayN Λ P σ m (d + 1)) := by rw [or_0]; simp [mayN, h75]
              refine wp_ic (pc := 85) (x := nI 0) dX5_look_85 ic_0 ?_
              refine wp_ior (pc := 86) dX5_look_86 ?_
              rw [e2]
              refine wf_iast (pc := 87) (j := m) dX5_look_87 lk_148 rfl (by omega) ?_
              refine wp_iinc1 (pc := 88) (L' := [_, _, _, _, _]) dX5_look_88 rfl rfl rfl ?_
              refine wp_goto (pc := 91) 50 dX5_look_91 (by decide) ?_
              have s2 : Sm 148 150 M2 (wI M2 148 m (nI (mayN Λ P σ m (d + 1)))) := Sm.w (by omega) (by omega)
              refine ih2 (d + 1) _ (by omega) (by omega) (s1.tr s2) (fun e he => (wI_na (by decide)).trans (hr1 e he)) (fun j hj => ?_) (wI_at _ _ _ _)
              rw [wI_nk (by omega)]
              exact hj1 j hj
            · have h75 := b2i_1 h75
              have e2 : nI (mayN Λ P σ m d) ||| (nI 1 <<< (nI d &&& 31)) = nI (mayN Λ P σ m (d + 1)) := by rw [or_bit (show d < 5 by omega)]; simp [mayN, h75]
              refine wp_ic (pc := 78) (x := nI 1) dX5_look_78 ic_1 ?_
              refine wp_iload (pc := 79) dX5_look_79 rfl ?_
              refine wp_ishl (pc := 81) dX5_look_81 ?_
              refine wp_goto (pc := 82) 86 dX5_look_82 (by decide) ?_
              refine wp_ior (pc := 86) dX5_look_86 ?_
              rw [e2]
              refine wf_iast (pc := 87) (j := m) dX5_look_87 lk_148 rfl (by omega) ?_
              refine wp_iinc1 (pc := 88) (L' := [_, _, _, _, _]) dX5_look_88 rfl rfl rfl ?_
              refine wp_goto (pc := 91) 50 dX5_look_91 (by decide) ?_
              have s2 : Sm 148 150 M2 (wI M2 148 m (nI (mayN Λ P σ m (d + 1)))) := Sm.w (by omega) (by omega)
              refine ih2 (d + 1) _ (by omega) (by omega) (s1.tr s2) (fun e he => (wI_na (by decide)).trans (hr1 e he)) (fun j hj => ?_) (wI_at _ _ _ _)
              rw [wI_nk (by omega)]
              exact hj1 j hj
      refine wp_iload_n (pc := 16) dX5_look_16 rfl ?_
      refine wp_aload_n (pc := 17) dX5_look_17 rfl ?_
      refine wf_getI (pc := 18) dX5_look_18 fl_X5_42 IL_14.1 ?_
      rw [(hx.sm s1 (by omega)).2.1]
      refine wp_icmp_ge (pc := 21) 100 dX5_look_21 (by decide) (fun h21 => ?_) (fun h21 => ?_)
      · exact absurd h21 (nI_ge (by omega) (by omega))
      · refine wp_aload_n (pc := 24) dX5_look_24 rfl ?_
        refine wf_getR (pc := 25) dX5_look_25 fl_X5_25 lk_144 ((s1.rs hR) 144 4 148 rfl) ?_
        refine wp_iload_n (pc := 28) dX5_look_28 rfl ?_
        refine wp_aload_n (pc := 29) dX5_look_29 rfl ?_
        refine wp_aload_n (pc := 30) dX5_look_30 rfl ?_
        refine wp_aload_n (pc := 31) dX5_look_31 rfl ?_
        refine wp_iload_n (pc := 32) dX5_look_32 rfl ?_
        refine wp_ic (pc := 33) (x := nI 4) dX5_look_33 ic_4 ?_
        refine wf_callVi (pc := 34) dX5_look_34 cl_X5_45 (c_fits (s1.rs hR) hL (hx.sm s1 (by omega)) (ht.sm s1 (by omega)) hP hσ (hs.si s1.2 (by omega)) (show m < lM Λ by omega) (show 4 < 5 by omega)) lk_144 rfl rfl rfl rfl (Nat.le_of_ble_eq_true rfl) (by decide) ⟨Nat.le_refl _, Nat.le_refl _⟩ (fun r34 M34 q34 => ?_)
        rw [q34.1, q34.2]
        refine wp_if_eq (pc := 37) 45 dX5_look_37 (by decide) (fun h37 => ?_) (fun h37 => ?_)
        · have h37 := b2i_0 h37
          have e2 : mayN Λ P σ m 0 = 0 := by simp [mayN, h37]
          refine wp_ic (pc := 45) (x := nI 0) dX5_look_45 ic_0 ?_
          refine wp_top (nI (mayN Λ P σ m 0)) (by rw [e2]) ?_
          refine wf_iast (pc := 46) (j := m) dX5_look_46 lk_148 rfl (by omega) ?_
          refine wp_ic (pc := 47) (x := nI 0) dX5_look_47 ic_0 ?_
          refine wp_istore (pc := 48) (L' := [_, _, _, _, _]) dX5_look_48 (Nat.le_of_ble_eq_true rfl) rfl rfl ?_
          have s2 : Sm 148 150 M1 (wI M1 148 m (nI (mayN Λ P σ m 0))) := Sm.w (by omega) (by omega)
          refine inner (lD Λ) 0 _ (by omega) (by omega) (s1.tr s2) (fun d hd => (wI_na (by decide)).trans (hr1 d hd)) (fun j hj => ?_) (wI_at _ _ _ _)
          rw [wI_nk (by omega)]
          exact hj1 j hj
        · have h37 := b2i_1 h37
          have e2 : mayN Λ P σ m 0 = 16 := by simp [mayN, h37]
          refine wp_bipush (pc := 40) (x := nI 16) dX5_look_40 bp_16 ?_
          refine wp_goto (pc := 42) 46 dX5_look_42 (by decide) ?_
          refine wp_top (nI (mayN Λ P σ m 0)) (by rw [e2]) ?_
          refine wf_iast (pc := 46) (j := m) dX5_look_46 lk_148 rfl (by omega) ?_
          refine wp_ic (pc := 47) (x := nI 0) dX5_look_47 ic_0 ?_
          refine wp_istore (pc := 48) (L' := [_, _, _, _, _]) dX5_look_48 (Nat.le_of_ble_eq_true rfl) rfl rfl ?_
          have s2 : Sm 148 150 M1 (wI M1 148 m (nI (mayN Λ P σ m 0))) := Sm.w (by omega) (by omega)
          refine inner (lD Λ) 0 _ (by omega) (by omega) (s1.tr s2) (fun d hd => (wI_na (by decide)).trans (hr1 d hd)) (fun j hj => ?_) (wI_at _ _ _ _)
          rw [wI_nk (by omega)]
          exact hj1 j hj
  refine wp_aload_n (pc := 0) dX5_look_0 rfl ?_
  refine wf_getR (pc := 1) dX5_look_1 fl_X5_31 IL_14.1 (hR 14 6 17 rfl) ?_
  refine wp_ic (pc := 4) (x := nI 0) dX5_look_4 ic_0 ?_
  refine wp_aload_n (pc := 5) dX5_look_5 rfl ?_
  refine wf_getR (pc := 6) dX5_look_6 fl_X5_28 lk_144 (hR 144 5 149 rfl) ?_
  refine wp_ic (pc := 9) (x := nI 0) dX5_look_9 ic_0 ?_
  refine wp_ic (pc := 10) (x := nI 4) dX5_look_10 ic_4 ?_
  refine wf_copy (pc := 11) dX5_look_11 ac_X5_36 IL_14.2.2.2.1 lk_149 (by decide) (by decide) (Nat.le_of_ble_eq_true rfl) (by decide) ?_
  refine wp_ic (pc := 14) (x := nI 0) dX5_look_14 ic_0 ?_
  refine wp_istore_n (pc := 15) (L' := [_, _, _, _, _]) dX5_look_15 (Nat.le_of_ble_eq_true rfl) rfl rfl ?_
  have s1 : Sm 148 150 M (wC M 17 0 149 0 4) := Sm.c (by omega) (by omega)
  exact loop (lM Λ) 0 _ (by omega) (by omega) s1 (fun d hd => wC_at hd) (fun j hj => absurd hj (by omega)) _
theorem less_ok {room : Nat → Nat} {d e : Nat} : less room d e = if e = d then room d - 1 else room e := by
  unfold less
  by_cases h : e = d
  · subst h; simp
  · simp [h]
theorem c_share {K : CtxT} {Λ : Lw} {may : Nat → Nat} (hL : OkN Λ) : ∀ (n j : Nat) (room : Nat → Nat) (M : Mm) (l : Launch), n = lM Λ - j → j ≤ lM Λ → RS M → XL M 14 Λ → (∀ j, j < lM Λ → M.1 148 j = nI (may j) ∧ may j < 32) → (∀ d, d < lD Λ → M.1 149 d = nI (room d) ∧ room d ≤ 3) → Ci l K (1 + n) mX5_share [.ref (K.1 + 14), .ref (K.1 + 148), .ref (K.1 + 149), .int (nI j)] M (fun rv M' => rv = nI (shN may (lD Λ) n j room) ∧ M' = M) := by
  have hN := hL.2.1
  have hD := hL.1
  intro n
  induction n with
  | zero =>
    intro j room M l hn hj hR hx hm hr
    have e : j = lM Λ := by omega
    subst e
    refine ci_of (L := [some (.ref (K.1 + 14)), some (.ref (K.1 + 148)), some (.ref (K.1 + 149)), some (.int (nI (lM Λ))), none, none]) (by decide +kernel) (Nat.le_of_ble_eq_true rfl) rfl rfl (fun E => ?_)
    refine wp_aload_n (pc := 0) dX5_share_0 rfl ?_
    refine wp_iload_n (pc := 1) dX5_share_1 rfl ?_
    refine wf_callVi (pc := 2) dX5_share_2 cl_X5_75 (c_hasMan IL_14 hR hL hx) IL_14.1 rfl rfl rfl rfl (Nat.le_of_ble_eq_true rfl) (by omega) ⟨Nat.le_refl _, Nat.le_refl _⟩ (fun r2 M2 q2 => ?_)
    rw [q2.1, q2.2]
    refine wp_if_ne (pc := 5) 10 dX5_share_5 (by decide) (fun h5 => ?_) (fun h5 => ?_)
    · rw [show inD (nI (lM Λ)) (lM Λ) = false from by simp [inD, nI_le (Nat.le_refl _) (show lM Λ < 2 ^ 31 by omega)]] at h5; exact absurd rfl h5
    · have h5 := b2i_0 h5
      refine wp_ic (pc := 8) (x := nI 1) dX5_share_8 ic_1 ?_
      refine wf_iret (pc := 9) dX5_share_9 rfl ?_
      exact ⟨rfl, rfl⟩
  | succ n ih =>
    intro j room M l hn hj hR hx hm hr
    refine ci_of (L := [some (.ref (K.1 + 14)), some (.ref (K.1 + 148)), some (.ref (K.1 + 149)), some (.int (nI j)), none, none]) (by decide +kernel) (Nat.le_of_ble_eq_true rfl) rfl rfl (fun E => ?_)
    have k39 : ∀ base : Nat, base = (if (may j).testBit 4 = true then shN may (lD Λ) n (j + 1) room else 0) → Wp E K mX5_share (1 + (n + 1)) (0, 0) 39 [some (.ref (K.1 + 14)), some (.ref (K.1 + 148)), some (.ref (K.1 + 149)), some (.int (nI j)), some (.int (nI base)), some (.int (nI 0))] [] 168 M 0 0 (zI E K (fun rv M' => rv = nI (shN may (lD Λ) (n + 1) j room) ∧ M' = M)) := by
      intro base hbase
      have loop : ∀ (d2 d : Nat), d2 = lD Λ - d → d ≤ lD Λ → Wp E K mX5_share (1 + (n + 1)) (0, 0) 39 [some (.ref (K.1 + 14)), some (.ref (K.1 + 148)), some (.ref (K.1 + 149)), some (.int (nI j)), some (.int (nI (base + sumF (fun d => if (may j).testBit d = true ∧ 0 < room d then shN may (lD Λ) n (j + 1) (less room d) else 0) d))), some (.int (nI d))] [] 168 M 0 0 (zI E K (fun rv M' => rv = nI (shN may (lD Λ) (n + 1) j room) ∧ M' = M)) := by
        intro d2
        induction d2 with
        | zero =>
          intro d hd2 hdd
          refine wp_iload (pc := 39) dX5_share_39 rfl ?_
          refine wp_aload_n (pc := 41) dX5_share_41 rfl ?_
          refine wf_getI (pc := 42) dX5_share_42 fl_X5_49 IL_14.1 ?_
          rw [hx.1]
          refine wp_icmp_ge (pc := 45) 103 dX5_share_45 (by decide) (fun h45 => ?_) (fun h45 => ?_)
          · have e : d = lD Λ := by omega
            subst e
            refine wp_iload (pc := 103) dX5_share_103 rfl ?_
            refine wf_iret (pc := 105) dX5_share_105 rfl ?_
            exact ⟨by rw [hbase]; rfl, rfl⟩
          · exact absurd (nI_le (by omega) (by omega)) h45
        | succ d2 ihl =>
          intro d hd2 hdd
          refine wp_iload (pc := 39) dX5_share_39 rfl ?_
          refine wp_aload_n (pc := 41) dX5_share_41 rfl ?_
          refine wf_getI (pc := 42) dX5_share_42 fl_X5_49 IL_14.1 ?_
          rw [hx.1]
          refine wp_icmp_ge (pc := 45) 103 dX5_share_45 (by decide) (fun h45 => ?_) (fun h45 => ?_)
          · exact absurd h45 (nI_ge (by omega) (by omega))
          · refine wp_aload_n (pc := 48) dX5_share_48 rfl ?_
            refine wp_iload_n (pc := 49) dX5_share_49 rfl ?_
            refine wf_iald (pc := 50) (j := j) dX5_share_50 lk_148 rfl (by omega) ?_
            rw [(hm j (by omega)).1]
            refine wp_iload (pc := 51) dX5_share_51 rfl ?_
            refine wp_ishr (pc := 53) dX5_share_53 ?_
            refine wp_ic (pc := 54) (x := nI 1) dX5_share_54 ic_1 ?_
            refine wp_iand (pc := 55) dX5_share_55 ?_
            refine wp_ic (pc := 56) (x := nI 1) dX5_share_56 ic_1 ?_
            refine wp_icmp_ne (pc := 57) 97 dX5_share_57 (by decide) (fun h57 => ?_) (fun h57 => ?_)
            · have h57 : ¬ (may j).testBit d = true := fun q => h57 ((bat_bit _ (hm j (by omega)).2 d (by omega)).mpr q)
              have e2 : sumF (fun d => if (may j).testBit d = true ∧ 0 < room d then shN may (lD Λ) n (j + 1) (less room d) else 0) (d + 1) = sumF (fun d => if (may j).testBit d = true ∧ 0 < room d then shN may (lD Λ) n (j + 1) (less room d) else 0) d + 0 := by simp [sumF, h57]
              first | (refine wp_mem (M' := M) (mm_ext rfl (fun a k => ?_)) ?_; · (by_cases e : a = 149 ∧ k = d; (rw [e.1, e.2, wI_at]; exact (hr d (by omega)).1.symm); (simp only [wI, if_neg e]))) | skip
              refine wp_iinc1 (pc := 97) (L' := [_, _, _, _, _, _]) dX5_share_97 rfl rfl rfl ?_
              refine wp_goto (pc := 100) 39 dX5_share_100 (by decide) ?_
              have g := ihl (d + 1) (by omega) (by omega)
              rw [e2] at g
              first | exact g | (rw [Nat.add_assoc base]; exact g)
            · have h57 : (may j).testBit d = true := (bat_bit _ (hm j (by omega)).2 d (by omega)).mp h57
              refine wp_aload_n (pc := 60) dX5_share_60 rfl ?_
              refine wp_iload (pc := 61) dX5_share_61 rfl ?_
              refine wf_iald (pc := 63) (j := d) dX5_share_63 lk_149 rfl (by omega) ?_
              rw [(hr d (by omega)).1]
              refine wp_if_le (pc := 64) 97 dX5_share_64 (by decide) (fun h64 => ?_) (fun h64 => ?_)
              · have h64 : ¬ 0 < room d := fun q => nI_nle q (by have := (hr d (by omega)).2; omega) h64
                have e2 : sumF (fun d => if (may j).testBit d = true ∧ 0 < room d then shN may (lD Λ) n (j + 1) (less room d) else 0) (d + 1) = sumF (fun d => if (may j).testBit d = true ∧ 0 < room d then shN may (lD Λ) n (j + 1) (less room d) else 0) d + 0 := by simp [sumF, h64]
                first | (refine wp_mem (M' := M) (mm_ext rfl (fun a k => ?_)) ?_; · (by_cases e : a = 149 ∧ k = d; (rw [e.1, e.2, wI_at]; exact (hr d (by omega)).1.symm); (simp only [wI, if_neg e]))) | skip
                refine wp_iinc1 (pc := 97) (L' := [_, _, _, _, _, _]) dX5_share_97 rfl rfl rfl ?_
                refine wp_goto (pc := 100) 39 dX5_share_100 (by decide) ?_
                have g := ihl (d + 1) (by omega) (by omega)
                rw [e2] at g
                first | exact g | (rw [Nat.add_assoc base]; exact g)
              · have h64 : 0 < room d := by rcases Nat.eq_zero_or_pos (room d) with q | q; rw [q] at h64; exact absurd (by decide) h64; exact q
                have hrd := (hr d (by omega)).2
                have e2 : sumF (fun d => if (may j).testBit d = true ∧ 0 < room d then shN may (lD Λ) n (j + 1) (less room d) else 0) (d + 1) = sumF (fun d => if (may j).testBit d = true ∧ 0 < room d then shN may (lD Λ) n (j + 1) (less room d) else 0) d + shN may (lD Λ) n (j + 1) (less room d) := by simp [sumF, h57, h64]
                refine wp_aload_n (pc := 67) dX5_share_67 rfl ?_
                refine wp_iload (pc := 68) dX5_share_68 rfl ?_
                refine wp_dup2 (pc := 70) dX5_share_70 rfl rfl ?_
                refine wf_iald (pc := 71) (j := d) dX5_share_71 lk_149 rfl (by omega) ?_
                rw [(hr d (by omega)).1]
                refine wp_ic (pc := 72) (x := nI 1) dX5_share_72 ic_1 ?_
                refine wp_isub (pc := 73) dX5_share_73 ?_
                rw [pk_sub h64]
                refine wf_iast (pc := 74) (j := d) dX5_share_74 lk_149 rfl (by omega) ?_
                have s1 : Sm 149 150 M (wI M 149 d (nI (room d - 1))) := Sm.w (by omega) (by omega)
                refine wp_iload (pc := 75) dX5_share_75 rfl ?_
                refine wp_aload_n (pc := 77) dX5_share_77 rfl ?_
                refine wp_aload_n (pc := 78) dX5_share_78 rfl ?_
                refine wp_aload_n (pc := 79) dX5_share_79 rfl ?_
                refine wp_iload_n (pc := 80) dX5_share_80 rfl ?_
                refine wp_ic (pc := 81) (x := nI 1) dX5_share_81 ic_1 ?_
                refine wp_iadd (pc := 82) dX5_share_82 ?_
                rw [nI_add]
                refine wf_callSi (pc := 83) dX5_share_83 cl_X5_71 (ih (j + 1) (less room d) (wI M 149 d (nI (room d - 1))) _ (by omega) (by omega) (s1.rs hR) (hx.sm s1 (by omega)) (fun i hi => by rw [wI_na (by decide)]; exact hm i hi) (fun e he => by rw [less_ok]; by_cases q : e = d; subst q; rw [if_pos rfl]; exact ⟨wI_at _ _ _ _, by omega⟩; rw [if_neg q, wI_nk q]; exact hr e he)) rfl rfl (Nat.le_of_ble_eq_true rfl) (by omega) ⟨Nat.le_refl _, Nat.le_refl _⟩ (fun r83 M83 q83 => ?_)
                rw [q83.1, q83.2]
                refine wp_iadd (pc := 86) dX5_share_86 ?_
                rw [nI_add]
                refine wp_istore (pc := 87) (L' := [_, _, _, _, _, _]) dX5_share_87 (Nat.le_of_ble_eq_true rfl) rfl rfl ?_
                refine wp_aload_n (pc := 89) dX5_share_89 rfl ?_
                refine wp_iload (pc := 90) dX5_share_90 rfl ?_
                refine wp_dup2 (pc := 92) dX5_share_92 rfl rfl ?_
                refine wf_iald (pc := 93) (j := d) dX5_share_93 lk_149 rfl (by omega) ?_
                rw [show (wI M 149 d (nI (room d - 1))).1 149 d = nI (room d - 1) from wI_at _ _ _ _]
                refine wp_ic (pc := 94) (x := nI 1) dX5_share_94 ic_1 ?_
                refine wp_iadd (pc := 95) dX5_share_95 ?_
                rw [nI_add, show room d - 1 + 1 = room d by omega]
                refine wf_iast (pc := 96) (j := d) dX5_share_96 lk_149 rfl (by omega) ?_
                first | (refine wp_mem (M' := M) (mm_ext rfl (fun a k => ?_)) ?_; · (by_cases e : a = 149 ∧ k = d; (rw [e.1, e.2, wI_at]; exact (hr d (by omega)).1.symm); (simp only [wI, if_neg e]))) | skip
                refine wp_iinc1 (pc := 97) (L' := [_, _, _, _, _, _]) dX5_share_97 rfl rfl rfl ?_
                refine wp_goto (pc := 100) 39 dX5_share_100 (by decide) ?_
                have g := ihl (d + 1) (by omega) (by omega)
                rw [e2] at g
                first | exact g | (rw [Nat.add_assoc base]; exact g)
      exact loop (lD Λ) 0 (by omega) (by omega)
    refine wp_aload_n (pc := 0) dX5_share_0 rfl ?_
    refine wp_iload_n (pc := 1) dX5_share_1 rfl ?_
    refine wf_callVi (pc := 2) dX5_share_2 cl_X5_75 (c_hasMan IL_14 hR hL hx) IL_14.1 rfl rfl rfl rfl (Nat.le_of_ble_eq_true rfl) (by omega) ⟨Nat.le_refl _, Nat.le_refl _⟩ (fun r2 M2 q2 => ?_)
    rw [q2.1, q2.2]
    refine wp_if_ne (pc := 5) 10 dX5_share_5 (by decide) (fun h5 => ?_) (fun h5 => ?_)
    · have h5 := b2i_1 h5
      refine wp_aload_n (pc := 10) dX5_share_10 rfl ?_
      refine wp_iload_n (pc := 11) dX5_share_11 rfl ?_
      refine wf_iald (pc := 12) (j := j) dX5_share_12 lk_148 rfl (by omega) ?_
      rw [(hm j (by omega)).1]
      refine wp_ic (pc := 13) (x := nI 4) dX5_share_13 ic_4 ?_
      refine wp_ishr (pc := 14) dX5_share_14 ?_
      refine wp_ic (pc := 15) (x := nI 1) dX5_share_15 ic_1 ?_
      refine wp_iand (pc := 16) dX5_share_16 ?_
      refine wp_ic (pc := 17) (x := nI 1) dX5_share_17 ic_1 ?_
      refine wp_icmp_ne (pc := 18) 33 dX5_share_18 (by decide) (fun h18 => ?_) (fun h18 => ?_)
      · have h18 : ¬ (may j).testBit 4 = true := fun q => h18 ((bat_bit _ (hm j (by omega)).2 4 (by omega)).mpr q)
        refine wp_ic (pc := 33) (x := nI 0) dX5_share_33 ic_0 ?_
        refine wp_istore (pc := 34) (L' := [_, _, _, _, _, _]) dX5_share_34 (Nat.le_of_ble_eq_true rfl) rfl rfl ?_
        refine wp_ic (pc := 36) (x := nI 0) dX5_share_36 ic_0 ?_
        refine wp_istore (pc := 37) (L' := [_, _, _, _, _, _]) dX5_share_37 (Nat.le_of_ble_eq_true rfl) rfl rfl ?_
        first | exact k39 0 (by rw [if_neg h18]) | exact k39 _ (by rw [if_pos h18])
      · have h18 : (may j).testBit 4 = true := (bat_bit _ (hm j (by omega)).2 4 (by omega)).mp h18
        refine wp_aload_n (pc := 21) dX5_share_21 rfl ?_
        refine wp_aload_n (pc := 22) dX5_share_22 rfl ?_
        refine wp_aload_n (pc := 23) dX5_share_23 rfl ?_
        refine wp_iload_n (pc := 24) dX5_share_24 rfl ?_
        refine wp_ic (pc := 25) (x := nI 1) dX5_share_25 ic_1 ?_
        refine wp_iadd (pc := 26) dX5_share_26 ?_
        rw [nI_add]
        refine wf_callSi (pc := 27) dX5_share_27 cl_X5_71 (ih (j + 1) room M _ (by omega) (by omega) hR hx hm hr) rfl rfl (Nat.le_of_ble_eq_true rfl) (by omega) ⟨Nat.le_refl _, Nat.le_refl _⟩ (fun r27 M27 q27 => ?_)
        rw [q27.1, q27.2]
        refine wp_goto (pc := 30) 34 dX5_share_30 (by decide) ?_
        refine wp_istore (pc := 34) (L' := [_, _, _, _, _, _]) dX5_share_34 (Nat.le_of_ble_eq_true rfl) rfl rfl ?_
        refine wp_ic (pc := 36) (x := nI 0) dX5_share_36 ic_0 ?_
        refine wp_istore (pc := 37) (L' := [_, _, _, _, _, _]) dX5_share_37 (Nat.le_of_ble_eq_true rfl) rfl rfl ?_
        first | exact k39 0 (by rw [if_neg h18]) | exact k39 _ (by rw [if_pos h18])
    · rw [inD_nI (by omega) (by omega)] at h5; exact absurd h5 (by decide)
theorem c_ways {l : Launch} {K : CtxT} {M : Mm} {Λ : Lw} {may room : Nat → Nat} (hL : OkN Λ) (hR : RS M) (hx : XL M 14 Λ) (hm : ∀ j, j < lM Λ → M.1 148 j = nI (may j) ∧ may j < 32) (hr : ∀ d, d < lD Λ → M.1 149 d = nI (room d) ∧ room d ≤ 3) : Ci l K 7 mX5_ways [.ref (K.1 + 144), .ref (K.1 + 14)] M (fun rv M' => rv = nI (shN may (lD Λ) (lM Λ) 0 room) ∧ M' = M) := by
  have hN := hL.2.1
  refine ci_of (L := [some (.ref (K.1 + 144)), some (.ref (K.1 + 14))]) (by decide +kernel) (Nat.le_of_ble_eq_true rfl) rfl rfl (fun E => ?_)
  refine wp_aload_n (pc := 0) dX5_ways_0 rfl ?_
  refine wp_aload_n (pc := 1) dX5_ways_1 rfl ?_
  refine wf_getR (pc := 2) dX5_ways_2 fl_X5_25 lk_144 (hR 144 4 148 rfl) ?_
  refine wp_aload_n (pc := 5) dX5_ways_5 rfl ?_
  refine wf_getR (pc := 6) dX5_ways_6 fl_X5_28 lk_144 (hR 144 5 149 rfl) ?_
  refine wp_ic (pc := 9) (x := nI 0) dX5_ways_9 ic_0 ?_
  refine wf_callSi (pc := 10) dX5_ways_10 cl_X5_71 (c_share hL (lM Λ) 0 room M _ (by omega) (by omega) hR hx hm hr) rfl rfl (Nat.le_of_ble_eq_true rfl) (by omega) ⟨Nat.le_refl _, Nat.le_refl _⟩ (fun r10 M10 q10 => ?_)
  rw [q10.1, q10.2]
  refine wf_iret (pc := 13) dX5_ways_13 rfl ?_
  exact ⟨rfl, rfl⟩
/-- with which companies all men can be shared out, one man in that company -/
def onlyM (may : Nat → Nat) (m c : Nat) : Nat → Nat := fun j => if j = m then may m &&& 2 ^ c else may j
def okC (may : Nat → Nat) (D n m : Nat) (room : Nat → Nat) (c : Nat) : Bool := decide (may m &&& 2 ^ c ≠ 0) && decide (0 < shN (onlyM may m c) D n 0 room)
def cntC (f : Nat → Bool) : Nat → Nat
  | 0 => 0
  | k + 1 => cntC f k + (if f k = true then 1 else 0)
/-- the last one of them below k; 10: none -/
def lastC (f : Nat → Bool) : Nat → Nat
  | 0 => 10
  | k + 1 => if f k = true then k else lastC f k
def codeC (k : Nat) : Int32 := if k = 10 then no9 else if k = 4 then nI 9 else nI k
theorem cntC_mono (f : Nat → Bool) {a b : Nat} (h : a ≤ b) : cntC f a ≤ cntC f b := by
  induction b with
  | zero => have : a = 0 := by omega
            subst this; exact Nat.le_refl _
  | succ b ih =>
    by_cases e : a = b + 1
    · subst e; exact Nat.le_refl _
    · have := ih (by omega)
      show cntC f a ≤ cntC f b + _
      omega
theorem lastC_10 (f : Nat → Bool) : ∀ k, k ≤ 5 → (cntC f k = 0 → lastC f k = 10) ∧ (lastC f k = 10 → cntC f k = 0) ∧ (lastC f k = 10 ∨ lastC f k < 5)
  | 0, _ => ⟨fun _ => rfl, fun _ => rfl, Or.inl rfl⟩
  | k + 1, h => by
    obtain ⟨h1, h2, h3⟩ := lastC_10 f k (by omega)
    unfold cntC lastC
    split
    · exact ⟨fun q => by omega, fun q => by omega, Or.inr (by omega)⟩
    · exact ⟨fun q => h1 (by omega), fun q => by rw [h2 q], h3⟩
theorem and_bit2 {a c : Nat} (ha : a < 32) (hc : c < 5) : nI a &&& bit c = nI (a &&& 2 ^ c) ∧ a &&& 2 ^ c < 32 := by
  have h : ∀ a, a < 32 → ∀ c, c < 5 → nI a &&& bit c = nI (a &&& 2 ^ c) ∧ a &&& 2 ^ c < 32 := by decide +kernel
  exact h a ha c hc
theorem c_onlyCompany {l : Launch} {K : CtxT} {M : Mm} {Λ : Lw} {may room : Nat → Nat} {m : Nat} (hL : OkN Λ) (hR : RS M) (hx : XL M 14 Λ) (hm : ∀ j, j < lM Λ → M.1 148 j = nI (may j) ∧ may j < 32) (hr : ∀ d, d < lD Λ → M.1 149 d = nI (room d) ∧ room d ≤ 3) (hmN : m < lM Λ) : Ci l K 8 mX5_onlyCompany [.ref (K.1 + 144), .ref (K.1 + 14), .int (nI m)] M (fun rv M' => rv = (if cntC (okC may (lD Λ) (lM Λ) m room) 5 = 1 then codeC (lastC (okC may (lD Λ) (lM Λ) m room) 5) else no9) ∧ Sm 148 149 M M') := by
  have hN := hL.2.1
  have hm32 := (hm m hmN).2
  refine ci_of (L := [some (.ref (K.1 + 144)), some (.ref (K.1 + 14)), some (.int (nI m)), none, none, none]) (by decide +kernel) (Nat.le_of_ble_eq_true rfl) rfl rfl (fun E => ?_)
  have loop : ∀ (n c : Nat) (M1 : Mm), n = 5 - c → c ≤ 5 → Sm 148 149 M M1 → (∀ j, j < lM Λ → j ≠ m → M1.1 148 j = nI (may j)) → cntC (okC may (lD Λ) (lM Λ) m room) c ≤ 1 → Wp E K mX5_onlyCompany 8 (0, 0) 14 [some (.ref (K.1 + 144)), some (.ref (K.1 + 14)), some (.int (nI m)), some (.int (nI (may m))), some (.int (codeC (lastC (okC may (lD Λ) (lM Λ) m room) c))), some (.int (nI c))] [] 168 M1 0 0 (zI E K (fun rv M' => rv = (if cntC (okC may (lD Λ) (lM Λ) m room) 5 = 1 then codeC (lastC (okC may (lD Λ) (lM Λ) m room) 5) else no9) ∧ Sm 148 149 M M')) := by
    intro n
    induction n with
    | zero =>
      intro c M1 hn hc s1 hm1 hct
      refine wp_iload (pc := 14) dX5_onlyCompany_14 rfl ?_
      refine wp_ic (pc := 16) (x := nI 4) dX5_onlyCompany_16 ic_4 ?_
      refine wp_icmp_gt (pc := 17) 80 dX5_onlyCompany_17 (by decide) (fun h17 => ?_) (fun h17 => ?_)
      · have e : c = 5 := by omega
        subst e
        obtain ⟨l1, l2, l3⟩ := lastC_10 (okC may (lD Λ) (lM Λ) m room) 5 (by omega)
        refine wp_iload (pc := 80) dX5_onlyCompany_80 rfl ?_
        refine wf_iret (pc := 82) dX5_onlyCompany_82 rfl ?_
        refine ⟨?_, s1⟩
        split
        · rfl
        · rename_i h0
          rw [l1 (by omega)]
          rfl
      · exact absurd (nI_lt (show 4 < c by omega) (by omega)) h17
    | succ n ih =>
      intro c M1 hn hc s1 hm1 hct
      have hR1 := s1.rs hR
      refine wp_iload (pc := 14) dX5_onlyCompany_14 rfl ?_
      refine wp_ic (pc := 16) (x := nI 4) dX5_onlyCompany_16 ic_4 ?_
      refine wp_icmp_gt (pc := 17) 80 dX5_onlyCompany_17 (by decide) (fun h17 => ?_) (fun h17 => ?_)
      · exact absurd h17 (nI_nlt (by omega) (by omega))
      · refine wp_aload_n (pc := 20) dX5_onlyCompany_20 rfl ?_
        refine wf_getR (pc := 21) dX5_onlyCompany_21 fl_X5_25 lk_144 (hR1 144 4 148 rfl) ?_
        refine wp_iload_n (pc := 24) dX5_onlyCompany_24 rfl ?_
        refine wp_iload_n (pc := 25) dX5_onlyCompany_25 rfl ?_
        refine wp_ic (pc := 26) (x := nI 1) dX5_onlyCompany_26 ic_1 ?_
        refine wp_iload (pc := 27) dX5_onlyCompany_27 rfl ?_
        refine wp_ishl (pc := 29) dX5_onlyCompany_29 ?_
        refine wp_iand (pc := 30) dX5_onlyCompany_30 ?_
        rw [(and_bit2 hm32 (show c < 5 by omega)).1]
        refine wf_iast (pc := 31) (j := m) dX5_onlyCompany_31 lk_148 rfl (by omega) ?_
        have hb2 := (and_bit2 hm32 (show c < 5 by omega)).2
        have s2 : Sm 148 149 M (wI M1 148 m (nI (may m &&& 2 ^ c))) := s1.tr (Sm.w (by omega) (by omega))
        have hm2 : ∀ j, j < lM Λ → j ≠ m → (wI M1 148 m (nI (may m &&& 2 ^ c))).1 148 j = nI (may j) := fun j hj hne => by rw [wI_nk hne]; exact hm1 j hj hne
        have hmm : (wI M1 148 m (nI (may m &&& 2 ^ c))).1 148 m = nI (may m &&& 2 ^ c) := wI_at _ _ _ _
        generalize wI M1 148 m (nI (may m &&& 2 ^ c)) = M2 at s2 hm2 hmm ⊢
        have hR1 := s2.rs hR
        refine wp_aload_n (pc := 32) dX5_onlyCompany_32 rfl ?_
        refine wf_getR (pc := 33) dX5_onlyCompany_33 fl_X5_25 lk_144 (hR1 144 4 148 rfl) ?_
        refine wp_iload_n (pc := 36) dX5_onlyCompany_36 rfl ?_
        refine wf_iald (pc := 37) (j := m) dX5_onlyCompany_37 lk_148 rfl (by omega) ?_
        rw [hmm]
        refine wp_if_eq (pc := 38) 74 dX5_onlyCompany_38 (by decide) (fun h38 => ?_) (fun h38 => ?_)
        · have h38 : may m &&& 2 ^ c = 0 := (nI_eq (by omega) (by omega)).mp h38
          have e0 : (okC may (lD Λ) (lM Λ) m room) c = false := by simp [okC, h38]
          have e2 : lastC (okC may (lD Λ) (lM Λ) m room) (c + 1) = lastC (okC may (lD Λ) (lM Λ) m room) c := by simp [lastC, e0]
          have e3 : cntC (okC may (lD Λ) (lM Λ) m room) (c + 1) = cntC (okC may (lD Λ) (lM Λ) m room) c := by simp [cntC, e0]
          first | (refine wp_iinc1 (pc := 74) (L' := [_, _, _, _, _, _]) dX5_onlyCompany_74 rfl rfl rfl ?_; refine wp_goto (pc := 77) 14 dX5_onlyCompany_77 (by decide) ?_; have g := ih (c + 1) M2 (by omega) (by omega) s2 hm2 (by omega); rw [e2] at g; exact g) | (refine wp_iinc1 (pc := 74) (L' := [_, _, _, _, _, _]) dX5_onlyCompany_74 rfl rfl rfl ?_; refine wp_goto (pc := 77) 14 dX5_onlyCompany_77 (by decide) ?_; have g := ih (c + 1) M2 (by omega) (by omega) s2 hm2 (by omega); rw [e2, e6] at g; exact g)
        · have h38 : may m &&& 2 ^ c ≠ 0 := fun q => h38 (by rw [q]; rfl)
          refine wp_aload_n (pc := 41) dX5_onlyCompany_41 rfl ?_
          refine wp_aload_n (pc := 42) dX5_onlyCompany_42 rfl ?_
          refine wf_callVi (pc := 43) dX5_onlyCompany_43 cl_X5_78 (c_ways (may := onlyM may m c) (room := room) hL (s2.rs hR) (hx.sm s2 (by omega)) (fun j hj => by unfold onlyM; by_cases q : j = m; subst q; rw [if_pos rfl]; exact ⟨hmm, hb2⟩; rw [if_neg q]; exact ⟨hm2 j hj q, (hm j hj).2⟩) (fun d hd => by rw [s2.2 149 (by omega)]; exact hr d hd)) lk_144 rfl rfl rfl rfl (Nat.le_of_ble_eq_true rfl) (by decide) ⟨Nat.le_refl _, Nat.le_refl _⟩ (fun r43 M43 q43 => ?_)
          rw [q43.1, q43.2]
          have hle := shN_le (onlyM may m c) hL.1 (lM Λ) 0 room
          have hp5 : 5 ^ lM Λ ≤ 3125 := Nat.pow_le_pow_right (n := 5) (by decide) hL.2.1
          refine wp_if_le (pc := 46) 74 dX5_onlyCompany_46 (by decide) (fun h46 => ?_) (fun h46 => ?_)
          · have h46 : ¬ 0 < shN (onlyM may m c) (lD Λ) (lM Λ) 0 room := fun q => nI_nle q (by omega) h46
            have e0 : (okC may (lD Λ) (lM Λ) m room) c = false := by simp [okC, h46]
            have e2 : lastC (okC may (lD Λ) (lM Λ) m room) (c + 1) = lastC (okC may (lD Λ) (lM Λ) m room) c := by simp [lastC, e0]
            have e3 : cntC (okC may (lD Λ) (lM Λ) m room) (c + 1) = cntC (okC may (lD Λ) (lM Λ) m room) c := by simp [cntC, e0]
            first | (refine wp_iinc1 (pc := 74) (L' := [_, _, _, _, _, _]) dX5_onlyCompany_74 rfl rfl rfl ?_; refine wp_goto (pc := 77) 14 dX5_onlyCompany_77 (by decide) ?_; have g := ih (c + 1) M2 (by omega) (by omega) s2 hm2 (by omega); rw [e2] at g; exact g) | (refine wp_iinc1 (pc := 74) (L' := [_, _, _, _, _, _]) dX5_onlyCompany_74 rfl rfl rfl ?_; refine wp_goto (pc := 77) 14 dX5_onlyCompany_77 (by decide) ?_; have g := ih (c + 1) M2 (by omega) (by omega) s2 hm2 (by omega); rw [e2, e6] at g; exact g)
          · have h46 : 0 < shN (onlyM may m c) (lD Λ) (lM Λ) 0 room := by rcases Nat.eq_zero_or_pos (shN (onlyM may m c) (lD Λ) (lM Λ) 0 room) with q | q; rw [q] at h46; exact absurd (by decide) h46; exact q
            have e0 : (okC may (lD Λ) (lM Λ) m room) c = true := by simp only [okC, h38, h46, ne_eq, not_false_eq_true, decide_true, Bool.and_true]
            have e2 : lastC (okC may (lD Λ) (lM Λ) m room) (c + 1) = c := by simp [lastC, e0]
            have e3 : cntC (okC may (lD Λ) (lM Λ) m room) (c + 1) = cntC (okC may (lD Λ) (lM Λ) m room) c + 1 := by simp [cntC, e0]
            obtain ⟨l1, l2, l3⟩ := lastC_10 (okC may (lD Λ) (lM Λ) m room) c (by omega)
            refine wp_iload (pc := 49) dX5_onlyCompany_49 rfl ?_
            refine wp_bipush (pc := 51) (x := (-9)) dX5_onlyCompany_51 bp_m9 ?_
            refine wp_icmp_eq (pc := 53) 59 dX5_onlyCompany_53 (by decide) (fun h53 => ?_) (fun h53 => ?_)
            · have h53 : lastC (okC may (lD Λ) (lM Λ) m room) c = 10 := by
                rcases l3 with q | q
                · exact q
                · unfold codeC at h53
                  rw [if_neg (by omega)] at h53
                  split at h53
                  · exact absurd h53 (by decide)
                  · exact absurd h53 (fun z => absurd (nI_pos (show lastC (okC may (lD Λ) (lM Λ) m room) c < 2 ^ 31 by omega)) (by rw [z]; decide))
              have e4 := l2 h53
              refine wp_iload (pc := 59) dX5_onlyCompany_59 rfl ?_
              refine wp_ic (pc := 61) (x := nI 4) dX5_onlyCompany_61 ic_4 ?_
              refine wp_icmp_ne (pc := 62) 70 dX5_onlyCompany_62 (by decide) (fun h62 => ?_) (fun h62 => ?_)
              · have h62 : ¬ c = 4 := fun q => h62 (by rw [q])
                have e6 : codeC c = nI c := by unfold codeC; rw [if_neg (by omega), if_neg h62]
                refine wp_iload (pc := 70) dX5_onlyCompany_70 rfl ?_
                refine wp_istore (pc := 72) (L' := [_, _, _, _, _, _]) dX5_onlyCompany_72 (Nat.le_of_ble_eq_true rfl) rfl rfl ?_
                first | (refine wp_iinc1 (pc := 74) (L' := [_, _, _, _, _, _]) dX5_onlyCompany_74 rfl rfl rfl ?_; refine wp_goto (pc := 77) 14 dX5_onlyCompany_77 (by decide) ?_; have g := ih (c + 1) M2 (by omega) (by omega) s2 hm2 (by omega); rw [e2] at g; exact g) | (refine wp_iinc1 (pc := 74) (L' := [_, _, _, _, _, _]) dX5_onlyCompany_74 rfl rfl rfl ?_; refine wp_goto (pc := 77) 14 dX5_onlyCompany_77 (by decide) ?_; have g := ih (c + 1) M2 (by omega) (by omega) s2 hm2 (by omega); rw [e2, e6] at g; exact g)
              · have h62 : c = 4 := (nI_eq (by omega) (by omega)).mp h62
                have e6 : codeC c = nI 9 := by rw [h62]; rfl
                refine wp_bipush (pc := 65) (x := nI 9) dX5_onlyCompany_65 bp_9 ?_
                refine wp_goto (pc := 67) 72 dX5_onlyCompany_67 (by decide) ?_
                refine wp_istore (pc := 72) (L' := [_, _, _, _, _, _]) dX5_onlyCompany_72 (Nat.le_of_ble_eq_true rfl) rfl rfl ?_
                first | (refine wp_iinc1 (pc := 74) (L' := [_, _, _, _, _, _]) dX5_onlyCompany_74 rfl rfl rfl ?_; refine wp_goto (pc := 77) 14 dX5_onlyCompany_77 (by decide) ?_; have g := ih (c + 1) M2 (by omega) (by omega) s2 hm2 (by omega); rw [e2] at g; exact g) | (refine wp_iinc1 (pc := 74) (L' := [_, _, _, _, _, _]) dX5_onlyCompany_74 rfl rfl rfl ?_; refine wp_goto (pc := 77) 14 dX5_onlyCompany_77 (by decide) ?_; have g := ih (c + 1) M2 (by omega) (by omega) s2 hm2 (by omega); rw [e2, e6] at g; exact g)
            · have h53 : lastC (okC may (lD Λ) (lM Λ) m room) c ≠ 10 := fun q => h53 (by rw [q]; rfl)
              have e4 : cntC (okC may (lD Λ) (lM Λ) m room) c ≠ 0 := fun q => h53 (l1 q)
              have e5 := cntC_mono (okC may (lD Λ) (lM Λ) m room) (show c + 1 ≤ 5 by omega)
              refine wp_bipush (pc := 56) (x := (-9)) dX5_onlyCompany_56 bp_m9 ?_
              refine wf_iret (pc := 58) dX5_onlyCompany_58 rfl ?_
              exact ⟨by rw [if_neg (by omega)], s2⟩
  refine wp_aload_n (pc := 0) dX5_onlyCompany_0 rfl ?_
  refine wf_getR (pc := 1) dX5_onlyCompany_1 fl_X5_25 lk_144 (hR 144 4 148 rfl) ?_
  refine wp_iload_n (pc := 4) dX5_onlyCompany_4 rfl ?_
  refine wf_iald (pc := 5) (j := m) dX5_onlyCompany_5 lk_148 rfl (by omega) ?_
  rw [(hm m hmN).1]
  refine wp_istore_n (pc := 6) (L' := [_, _, _, _, _, _]) dX5_onlyCompany_6 (Nat.le_of_ble_eq_true rfl) rfl rfl ?_
  refine wp_bipush (pc := 7) (x := (-9)) dX5_onlyCompany_7 bp_m9 ?_
  refine wp_istore (pc := 9) (L' := [_, _, _, _, _, _]) dX5_onlyCompany_9 (Nat.le_of_ble_eq_true rfl) rfl rfl ?_
  refine wp_ic (pc := 11) (x := nI 0) dX5_onlyCompany_11 ic_0 ?_
  refine wp_istore (pc := 12) (L' := [_, _, _, _, _, _]) dX5_onlyCompany_12 (Nat.le_of_ble_eq_true rfl) rfl rfl ?_
  exact loop 5 0 M (by omega) (by omega) Sm.rf (fun j hj _ => (hm j hj).1) (Nat.zero_le _)
