theorem c_remember {l : Launch} {K : CtxT} {M : Mm} {Λ : Lw} {P : Pg} {c : Nat} {A : Nat → Pg} (hR : RS M) (hL : OkN Λ) (hA : XA M Λ c A) (ht : XT M 19 Λ P) : Cv l K 2 mX0_remember [.ref (K.1 + 31), .ref (K.1 + 19)] M (fun M' => XA M' Λ (nAc c) (nA c A P) ∧ Si 31 117 M M' ∧ Ra M M') := by
  obtain ⟨hc14, hcc, π0, hπ0, hinj0, hb0, hX0⟩ := hA
  refine cv_of (L := [some (.ref (K.1 + 31)), some (.ref (K.1 + 19))]) (by decide +kernel) (Nat.le_of_ble_eq_true rfl) rfl rfl (fun E => ?_)
  have k13 : ∀ (M1 : Mm) (c1 : Nat) (A1 : Nat → Pg) (π : Nat → Nat), c1 < 14 → (∀ i, i < 14 → π i < 14) → (∀ i j, i < 14 → j < 14 → π i = π j → i = j) → (∀ i, i < 14 → M1.2.2 32 i = some (33 + 6 * π i)) → M1.1 31 0 = nI c1 → (∀ i, i < c1 → XT M1 (33 + 6 * π i) Λ (A1 i)) → XT M1 19 Λ P → RS M1 → Si 31 117 M M1 → Ra M M1 → nAc c = c1 + 1 → (∀ i, i < c1 + 1 → nA c A P i = if i = c1 then P else A1 i) → Wp E K mX0_remember 2 (0, 0) 13 [some (.ref (K.1 + 31)), some (.ref (K.1 + 19))] [] 168 M1 0 0 (zV E K (fun M' => XA M' Λ (nAc c) (nA c A P) ∧ Si 31 117 M M' ∧ Ra M M')) := by
    intro M1 c1 A1 π hc1 hπ hinj hb hc hX ht hR hsi hra hn hA2
    refine wp_aload_n (pc := 13) dX0_remember_13 rfl ?_
    refine wf_getR (pc := 14) dX0_remember_14 fl_X0_17 lk_31 (hR _ _ _ rfl) ?_
    refine wp_aload_n (pc := 17) dX0_remember_17 rfl ?_
    refine wf_getI (pc := 18) dX0_remember_18 fl_X0_9 lk_31 ?_
    rw [hc]
    refine wf_aaldT (pc := 21) (j := c1) dX0_remember_21 lk_32 rfl (by omega) (hb c1 (by omega)) ?_
    refine wp_aload_n (pc := 22) dX0_remember_22 rfl ?_
    refine wf_callVv (pc := 23) dX0_remember_23 cl_X0_25 (c_Town_become (IT_acts _ (hπ c1 (by omega))) IT_19 hR (by have := hπ c1 (by omega); omega)) (IT_acts _ (hπ c1 (by omega))).1 rfl rfl rfl rfl (Nat.le_of_ble_eq_true rfl) (by decide) ⟨Nat.le_refl _, Nat.le_refl _⟩ (fun M23 q23 => ?_)
    have hp1 := hπ c1 (by omega)
    have hc2 : M23.1 31 0 = nI c1 := (q23.2.2 31 (by omega) 0).trans hc
    have hR := q23.2.rs hR
    refine wp_aload_n (pc := 26) dX0_remember_26 rfl ?_
    refine wp_dup (pc := 27) dX0_remember_27 rfl ?_
    refine wf_getI (pc := 28) dX0_remember_28 fl_X0_9 lk_31 ?_
    refine wp_ic (pc := 31) (x := nI 1) dX0_remember_31 ic_1 ?_
    refine wp_iadd (pc := 32) dX0_remember_32 ?_
    refine wf_putI (pc := 33) dX0_remember_33 fl_X0_9 lk_31 ?_
    refine wf_vret (pc := 36) dX0_remember_36 rfl ?_
    rw [hc2, nI_add]
    have hs2 : Sm 31 32 M23 (wI M23 31 0 (nI (c1 + 1))) := Sm.w (by omega) (by omega)
    refine ⟨⟨by omega, by rw [hn, wI_at], π, hπ, hinj, fun i hi => ?_, fun i hi => ?_⟩, ?_, ?_⟩
    · rw [show (wI M23 31 0 (nI (c1 + 1))).2.2 = M23.2.2 from rfl, q23.2.1]; exact hb i hi
    · rw [hA2 i (by omega)]
      by_cases e : i = c1
      · subst e
        rw [if_pos rfl]
        exact (q23.1.XT ⟨hL.1, hL.2.1⟩ ht).sm hs2 (by omega)
      · rw [if_neg e]
        have hne : π i ≠ π c1 := fun q => e (hinj i c1 (by omega) (by omega) q)
        exact ((hX i (by omega)).sm q23.2 (by omega)).sm hs2 (by omega)
    · exact hsi.tr (Si.tr (Si.up q23.2.2 (by omega) (by omega)) (Si.up hs2.2 (by omega) (by omega)))
    · exact hra.tr (q23.2.ra.tr hs2.ra)
  refine wp_aload_n (pc := 0) dX0_remember_0 rfl ?_
  refine wf_getI (pc := 1) dX0_remember_1 fl_X0_9 lk_31 ?_
  rw [hcc]
  refine wp_bipush (pc := 4) (x := nI 14) dX0_remember_4 bp_14 ?_
  refine wp_icmp_lt (pc := 6) 13 dX0_remember_6 (by decide) (fun h6 => ?_) (fun h6 => ?_)
  · have h6 := (nI_ltI (by omega) (by omega)).mp h6
    first | exact k13 M c A π0 h6 hπ0 hinj0 hb0 hcc hX0 ht hR Si.rf Ra.rf (by unfold nAc; rw [if_neg (by omega)]) (fun i hi => by unfold nA; rw [if_neg (by omega)]) | skip
    all_goals (
      have hs1 : Sm 31 32 M (wI M 31 0 (nI 13)) := Sm.w (by omega) (by omega)
      have hsi : Si 31 32 M M10 := fun a ha k => by rw [q10.2.2]; exact hs1.2 a ha k
      have hc13 : M10.1 31 0 = nI 13 := by rw [q10.2.2]; exact wI_at M 31 0 _
      exact k13 M10 13 (fun i => A (i + 1)) (fun i => π0 (if i < 13 then i + 1 else 0)) (by omega) (fun i hi => hπ0 _ (by split <;> omega)) (fun i j hi hj q => by have := hinj0 _ _ (by split <;> omega) (by split <;> omega) q; split at this <;> split at this <;> omega) q10.1 hc13 (fun i hi => by rw [if_pos hi]; exact (hX0 (i + 1) (by omega)).si hsi (by omega)) (ht.si hsi (by omega)) (q10.2.1.rs hR) (Si.up hsi (by omega) (by omega)) q10.2.1 (by rfl) (fun i hi => by unfold nA; rw [if_pos rfl]; by_cases e : i = 13; rw [if_pos e, if_neg (by omega)]; rw [if_neg e, if_pos (by omega)]))
  · have h6 : c = 14 := by
      have : ¬ c < 14 := fun q => h6 ((nI_ltI (by omega) (by omega)).mpr q)
      omega
    subst h6
    refine wp_aload_n (pc := 9) dX0_remember_9 rfl ?_
    refine wf_callVv (pc := 10) dX0_remember_10 cl_X0_22 (c_forgetFirst hR hπ0 hb0) lk_31 rfl rfl rfl rfl (Nat.le_of_ble_eq_true rfl) (by decide) ⟨Nat.le_refl _, Nat.le_refl _⟩ (fun M10 q10 => ?_)
    first | exact k13 M c A π0 h6 hπ0 hinj0 hb0 hcc hX0 ht hR Si.rf Ra.rf (by unfold nAc; rw [if_neg (by omega)]) (fun i hi => by unfold nA; rw [if_neg (by omega)]) | skip
    all_goals (
      have hs1 : Sm 31 32 M (wI M 31 0 (nI 13)) := Sm.w (by omega) (by omega)
      have hsi : Si 31 32 M M10 := fun a ha k => by rw [q10.2.2]; exact hs1.2 a ha k
      have hc13 : M10.1 31 0 = nI 13 := by rw [q10.2.2]; exact wI_at M 31 0 _
      exact k13 M10 13 (fun i => A (i + 1)) (fun i => π0 (if i < 13 then i + 1 else 0)) (by omega) (fun i hi => hπ0 _ (by split <;> omega)) (fun i j hi hj q => by have := hinj0 _ _ (by split <;> omega) (by split <;> omega) q; split at this <;> split at this <;> omega) q10.1 hc13 (fun i hi => by rw [if_pos hi]; exact (hX0 (i + 1) (by omega)).si hsi (by omega)) (ht.si hsi (by omega)) (q10.2.1.rs hR) (Si.up hsi (by omega) (by omega)) q10.2.1 (by rfl) (fun i hi => by unfold nA; rw [if_pos rfl]; by_cases e : i = 13; rw [if_pos e, if_neg (by omega)]; rw [if_neg e, if_pos (by omega)]))
theorem c_takeBack {l : Launch} {K : CtxT} {M : Mm} {Λ : Lw} {c : Nat} {A : Nat → Pg} (hR : RS M) (hL : OkN Λ) (hA : XA M Λ c A) (hc0 : 0 < c) : Cv l K 2 mX0_takeBack [.ref (K.1 + 31), .ref (K.1 + 19)] M (fun M' => XA M' Λ (c - 1) A ∧ XT M' 19 Λ (A (c - 1)) ∧ (∀ a, (a < 19 ∨ 25 ≤ a) → a ≠ 31 → ∀ k, M'.1 a k = M.1 a k) ∧ Ra M M') := by
  obtain ⟨hc14, hcc, π, hπ, hinj, hb, hX⟩ := hA
  refine cv_of (L := [some (.ref (K.1 + 31)), some (.ref (K.1 + 19))]) (by decide +kernel) (Nat.le_of_ble_eq_true rfl) rfl rfl (fun E => ?_)
  refine wp_aload_n (pc := 0) dX0_takeBack_0 rfl ?_
  refine wf_getI (pc := 1) dX0_takeBack_1 fl_X0_9 lk_31 ?_
  rw [hcc]
  refine wp_if_le (pc := 4) 30 dX0_takeBack_4 (by decide) (fun h4 => ?_) (fun h4 => ?_)
  · exact absurd h4 (nI_nle hc0 (by omega))
  · refine wp_aload_n (pc := 7) dX0_takeBack_7 rfl ?_
    refine wp_dup (pc := 8) dX0_takeBack_8 rfl ?_
    refine wf_getI (pc := 9) dX0_takeBack_9 fl_X0_9 lk_31 ?_
    rw [hcc]
    refine wp_ic (pc := 12) (x := nI 1) dX0_takeBack_12 ic_1 ?_
    refine wp_isub (pc := 13) dX0_takeBack_13 ?_
    rw [pk_sub (by omega)]
    refine wf_putI (pc := 14) dX0_takeBack_14 fl_X0_9 lk_31 ?_
    have hs1 : Sm 31 32 M (wI M 31 0 (nI (c - 1))) := Sm.w (by omega) (by omega)
    have hc1 : (wI M 31 0 (nI (c - 1))).1 31 0 = nI (c - 1) := wI_at _ _ _ _
    have hR := hs1.rs hR
    have hb1 : ∀ i, i < 14 → (wI M 31 0 (nI (c - 1))).2.2 32 i = some (33 + 6 * π i) := hb
    have hX1 : ∀ i, i < c → XT (wI M 31 0 (nI (c - 1))) (33 + 6 * π i) Λ (A i) := fun i hi => (hX i hi).sm hs1 (by omega)
    generalize wI M 31 0 (nI (c - 1)) = M1 at hs1 hc1 hR hb1 hX1 ⊢
    refine wp_aload_n (pc := 17) dX0_takeBack_17 rfl ?_
    refine wp_aload_n (pc := 18) dX0_takeBack_18 rfl ?_
    refine wf_getR (pc := 19) dX0_takeBack_19 fl_X0_17 lk_31 (hR _ _ _ rfl) ?_
    refine wp_aload_n (pc := 22) dX0_takeBack_22 rfl ?_
    refine wf_getI (pc := 23) dX0_takeBack_23 fl_X0_9 lk_31 ?_
    rw [hc1]
    refine wf_aaldT (pc := 26) (j := (c - 1)) dX0_takeBack_26 lk_32 rfl (by omega) (hb1 (c - 1) (by omega)) ?_
    refine wf_callVv (pc := 27) dX0_takeBack_27 cl_X0_25 (c_Town_become IT_19 (IT_acts _ (hπ (c - 1) (by omega))) hR (by omega)) IT_19.1 rfl rfl rfl rfl (Nat.le_of_ble_eq_true rfl) (by decide) ⟨Nat.le_refl _, Nat.le_refl _⟩ (fun M27 q27 => ?_)
    refine wf_vret (pc := 30) dX0_takeBack_30 rfl ?_
    refine ⟨⟨by omega, (q27.2.2 31 (by omega) 0).trans hc1, π, hπ, hinj, fun i hi => ?_, fun i hi => ?_⟩, ?_, ?_, ?_⟩
    · rw [q27.2.1]; exact hb1 i hi
    · exact (hX1 i (by omega)).sm q27.2 (by omega)
    · exact q27.1.XT ⟨hL.1, hL.2.1⟩ (hX1 (c - 1) (by omega))
    · intro a ha h31 k
      rw [q27.2.2 a (by omega) k]
      exact hs1.2 a (by omega) k
    · exact hs1.ra.tr q27.2.ra
theorem c_acts_forget {l : Launch} {K : CtxT} {M : Mm} (hR : RS M) : Cv l K 0 mX0_forget [.ref (K.1 + 31)] M (fun M' => M' = wI M 31 0 (nI 0)) := by
  refine cv_of (L := [some (.ref (K.1 + 31))]) (by decide +kernel) (Nat.le_of_ble_eq_true rfl) rfl rfl (fun E => ?_)
  refine wp_aload_n (pc := 0) dX0_forget_0 rfl ?_
  refine wp_ic (pc := 1) (x := nI 0) dX0_forget_1 ic_0 ?_
  refine wf_putI (pc := 2) dX0_forget_2 fl_X0_9 lk_31 ?_
  refine wf_vret (pc := 5) dX0_forget_5 rfl ?_
  rfl
/-- the slots: which of the two are kept, and what -/
def XK (M : Mm) (Λ : Lw) (S : Nat → Option Pg) : Prop := (∃ f, f < 4 ∧ M.1 117 1 = nI f ∧ ∀ k, k < 2 → (f.testBit k = true ↔ ∃ P, S k = some P)) ∧ ∀ k, k < 2 → ∀ P, S k = some P → XT M (119 + 6 * k) Λ P
theorem rt_slot {k : Nat} (hk : k < 2) : rtab 118 k = some (119 + 6 * k) := by simp [rtab, lk_118, hk]
def putS (S : Nat → Option Pg) (k : Nat) (P : Pg) : Nat → Option Pg := fun j => if j = k then some P else S j
theorem c_put {l : Launch} {K : CtxT} {M : Mm} {Λ : Lw} {S : Nat → Option Pg} {P : Pg} {k : Nat} (hR : RS M) (hL : OkN Λ) (hS : XK M Λ S) (ht : XT M 19 Λ P) (hk : k < 2) : Cv l K 2 mX6_put [.ref (K.1 + 117), .int (nI k), .ref (K.1 + 19)] M (fun M' => XK M' Λ (putS S k P) ∧ Sm 117 131 M M') := by
  refine cv_of (L := [some (.ref (K.1 + 117)), some (.int (nI k)), some (.ref (K.1 + 19))]) (by decide +kernel) (Nat.le_of_ble_eq_true rfl) rfl rfl (fun E => ?_)
  obtain ⟨⟨f, hf4, hf, hfb⟩, hX⟩ := hS
  refine wp_aload_n (pc := 0) dX6_put_0 rfl ?_
  refine wf_getR (pc := 1) dX6_put_1 fl_X6_11 lk_117 (hR _ _ _ rfl) ?_
  refine wp_iload_n (pc := 4) dX6_put_4 rfl ?_
  refine wf_aaldT (pc := 5) (j := k) dX6_put_5 lk_118 rfl hk (hR _ _ _ (rt_slot hk)) ?_
  refine wp_aload_n (pc := 6) dX6_put_6 rfl ?_
  refine wf_callVv (pc := 7) dX6_put_7 cl_X6_22 (c_Town_become (IT_slots _ hk) IT_19 hR (by omega)) (IT_slots _ hk).1 rfl rfl rfl rfl (Nat.le_of_ble_eq_true rfl) (by decide) ⟨Nat.le_refl _, Nat.le_refl _⟩ (fun M7 q7 => ?_)
  have hf2 : M7.1 117 1 = nI f := (q7.2.2 117 (by omega) 1).trans hf
  refine wp_aload_n (pc := 10) dX6_put_10 rfl ?_
  refine wp_dup (pc := 11) dX6_put_11 rfl ?_
  refine wf_getI (pc := 12) dX6_put_12 fl_X6_17 lk_117 ?_
  rw [hf2]
  refine wp_ic (pc := 15) (x := nI 1) dX6_put_15 ic_1 ?_
  refine wp_iload_n (pc := 16) dX6_put_16 rfl ?_
  refine wp_ishl (pc := 17) dX6_put_17 ?_
  refine wp_ior (pc := 18) dX6_put_18 ?_
  refine wp_top (nI (f ||| 2 ^ k)) (or_bit (by omega)) ?_
  refine wf_putI (pc := 19) dX6_put_19 fl_X6_17 lk_117 ?_
  refine wf_vret (pc := 22) dX6_put_22 rfl ?_
  have hs2 : Sm 117 118 M7 (wI M7 117 1 (nI (f ||| 2 ^ k))) := Sm.w (by omega) (by omega)
  have hbits : ∀ f, f < 4 → ∀ k, k < 2 → f ||| 2 ^ k < 4 ∧ ∀ j, j < 2 → (f ||| 2 ^ k).testBit j = (decide (j = k) || f.testBit j) := by decide
  refine ⟨⟨⟨_, (hbits f hf4 k hk).1, wI_at _ _ _ _, fun j hj => ?_⟩, fun j hj Pj hPj => ?_⟩, (Sm.up q7.2 (by omega) (by omega)).tr (Sm.up hs2 (by omega) (by omega))⟩
  · rw [(hbits f hf4 k hk).2 j hj]
    unfold putS
    by_cases e : j = k
    · simp [e]
    · simp only [e, decide_false, Bool.false_or, if_false]; exact hfb j hj
  · unfold putS at hPj
    by_cases e : j = k
    · subst e
      rw [if_pos rfl] at hPj
      cases hPj
      exact (q7.1.XT ⟨hL.1, hL.2.1⟩ ht).sm hs2 (by omega)
    · rw [if_neg e] at hPj
      exact ((hX j hj Pj hPj).sm q7.2 (by omega)).sm hs2 (by omega)
theorem c_slot_holds {l : Launch} {K : CtxT} {M : Mm} {Λ : Lw} {S : Nat → Option Pg} {k : Nat} (hR : RS M) (hS : XK M Λ S) (hk : k < 2) : Ci l K 0 mX6_holds [.ref (K.1 + 117), .int (nI k)] M (fun rv M' => rv = b2i (S k).isSome ∧ M' = M) := by
  refine ci_of (L := [some (.ref (K.1 + 117)), some (.int (nI k))]) (by decide +kernel) (Nat.le_of_ble_eq_true rfl) rfl rfl (fun E => ?_)
  obtain ⟨⟨f, hf4, hf, hfb⟩, hX⟩ := hS
  have hb : ∀ f, f < 4 → ∀ k, k < 2 → (bat (nI f) k = nI 1 ↔ f.testBit k = true) := by decide +kernel
  have e0 : bat (nI f) k = nI 1 ↔ (S k).isSome = true := (hb f hf4 k hk).trans ((hfb k hk).trans (by cases S k <;> simp))
  refine wp_aload_n (pc := 0) dX6_holds_0 rfl ?_
  refine wf_getI (pc := 1) dX6_holds_1 fl_X6_17 lk_117 ?_
  rw [hf]
  refine wp_iload_n (pc := 4) dX6_holds_4 rfl ?_
  refine wp_ishr (pc := 5) dX6_holds_5 ?_
  refine wp_ic (pc := 6) (x := nI 1) dX6_holds_6 ic_1 ?_
  refine wp_iand (pc := 7) dX6_holds_7 ?_
  refine wp_ic (pc := 8) (x := nI 1) dX6_holds_8 ic_1 ?_
  refine wp_icmp_ne (pc := 9) 16 dX6_holds_9 (by decide) (fun h9 => ?_) (fun h9 => ?_)
  · have e : (S k).isSome = false := by cases hS : (S k).isSome; rfl; exact absurd (e0.mpr hS) h9
    refine wp_ic (pc := 16) (x := nI 0) dX6_holds_16 ic_0 ?_
    refine wf_zret (pc := 17) (false) dX6_holds_17 rfl rfl ?_
    exact ⟨by rw [e], rfl⟩
  · have e : (S k).isSome = true := e0.mp h9
    refine wp_ic (pc := 12) (x := nI 1) dX6_holds_12 ic_1 ?_
    refine wp_goto (pc := 13) 17 dX6_holds_13 (by decide) ?_
    refine wf_zret (pc := 17) (true) dX6_holds_17 rfl rfl ?_
    exact ⟨by rw [e], rfl⟩
theorem c_restore {l : Launch} {K : CtxT} {M : Mm} {Λ : Lw} {S : Nat → Option Pg} {P : Pg} {k : Nat} (hR : RS M) (hL : OkN Λ) (hS : XK M Λ S) (hk : k < 2) (hP : S k = some P) : Cv l K 2 mX6_restore [.ref (K.1 + 117), .int (nI k), .ref (K.1 + 19)] M (fun M' => XT M' 19 Λ P ∧ Sm 19 25 M M') := by
  refine cv_of (L := [some (.ref (K.1 + 117)), some (.int (nI k)), some (.ref (K.1 + 19))]) (by decide +kernel) (Nat.le_of_ble_eq_true rfl) rfl rfl (fun E => ?_)
  refine wp_aload_n (pc := 0) dX6_restore_0 rfl ?_
  refine wp_aload_n (pc := 1) dX6_restore_1 rfl ?_
  refine wf_getR (pc := 2) dX6_restore_2 fl_X6_11 lk_117 (hR _ _ _ rfl) ?_
  refine wp_iload_n (pc := 5) dX6_restore_5 rfl ?_
  refine wf_aaldT (pc := 6) (j := k) dX6_restore_6 lk_118 rfl hk (hR _ _ _ (rt_slot hk)) ?_
  refine wf_callVv (pc := 7) dX6_restore_7 cl_X6_22 (c_Town_become IT_19 (IT_slots _ hk) hR (by omega)) IT_19.1 rfl rfl rfl rfl (Nat.le_of_ble_eq_true rfl) (by decide) ⟨Nat.le_refl _, Nat.le_refl _⟩ (fun M7 q7 => ?_)
  refine wf_vret (pc := 10) dX6_restore_10 rfl ?_
  exact ⟨q7.1.XT ⟨hL.1, hL.2.1⟩ (hS.2 k hk P hP), q7.2⟩
theorem c_slots_forget {l : Launch} {K : CtxT} {M : Mm} (hR : RS M) : Cv l K 0 mX6_forget [.ref (K.1 + 117)] M (fun M' => M' = wI M 117 1 (nI 0)) := by
  refine cv_of (L := [some (.ref (K.1 + 117))]) (by decide +kernel) (Nat.le_of_ble_eq_true rfl) rfl rfl (fun E => ?_)
  refine wp_aload_n (pc := 0) dX6_forget_0 rfl ?_
  refine wp_ic (pc := 1) (x := nI 0) dX6_forget_1 ic_0 ?_
  refine wf_putI (pc := 2) dX6_forget_2 fl_X6_17 lk_117 ?_
  refine wf_vret (pc := 5) dX6_forget_5 rfl ?_
  rfl
