theorem cR_power {l : Launch} {K : CtxT} {M : Mm} {b n : Nat} (hn : n < 2 ^ 31) : Ci l K 0 mX9_power [.int (nI b), .int (nI n)] M (fun r M' => r = nI (b ^ n) ∧ M' = M) := by
  refine ci_of (L := [some (.int (nI b)), some (.int (nI n)), none, none]) (by decide +kernel) (Nat.le_of_ble_eq_true rfl) rfl rfl (fun E => ?_)
  have loop : ∀ (n1 k : Nat), n1 = n - k → k ≤ n → Wp E K mX9_power 0 (0, 0) 4 [some (.int (nI b)), some (.int (nI n)), some (.int (nI (b ^ k))), some (.int (nI k))] [] 168 M 0 0 (zI E K (fun r M' => r = nI (b ^ n) ∧ M' = M)) := by
    intro n1
    induction n1 with
    | zero =>
      intro k hn hm
      refine wp_iload_n (pc := 4) dX9_power_4 rfl ?_
      refine wp_iload_n (pc := 5) dX9_power_5 rfl ?_
      refine wp_icmp_ge (pc := 6) 19 dX9_power_6 (by decide) (fun h6 => ?_) (fun h6 => ?_)
      · have e : k = n := by omega
        subst e
        refine wp_iload_n (pc := 19) dX9_power_19 rfl ?_
        refine wf_iret (pc := 20) dX9_power_20 rfl ?_
        exact ⟨rfl, rfl⟩
      · exact absurd (nI_le (by omega) (by omega)) h6
    | succ n1 ih =>
      intro k hn hm
      refine wp_iload_n (pc := 4) dX9_power_4 rfl ?_
      refine wp_iload_n (pc := 5) dX9_power_5 rfl ?_
      refine wp_icmp_ge (pc := 6) 19 dX9_power_6 (by decide) (fun h6 => ?_) (fun h6 => ?_)
      · exact absurd h6 (nI_ge (by omega) (by omega))
      · refine wp_iload_n (pc := 9) dX9_power_9 rfl ?_
        refine wp_iload_n (pc := 10) dX9_power_10 rfl ?_
        refine wp_imul (pc := 11) dX9_power_11 ?_
        refine wp_top (nI (b ^ (k + 1))) (by rw [pk_mul, Nat.pow_succ]) ?_
        refine wp_istore_n (pc := 12) (L' := [_, _, _, _]) dX9_power_12 (Nat.le_of_ble_eq_true rfl) rfl rfl ?_
        refine wp_iinc1 (pc := 13) (L' := [_, _, _, _]) dX9_power_13 rfl rfl rfl ?_
        refine wp_goto (pc := 16) 4 dX9_power_16 (by decide) ?_
        exact ih (k + 1) (by omega) (by omega)
  refine wp_ic (pc := 0) (x := nI 1) dX9_power_0 ic_1 ?_
  refine wp_istore_n (pc := 1) (L' := [_, _, _, _]) dX9_power_1 (Nat.le_of_ble_eq_true rfl) rfl rfl ?_
  refine wp_ic (pc := 2) (x := nI 0) dX9_power_2 ic_0 ?_
  refine wp_istore_n (pc := 3) (L' := [_, _, _, _]) dX9_power_3 (Nat.le_of_ble_eq_true rfl) rfl rfl ?_
  exact loop n 0 (by omega) (by omega)
theorem cR_worthOf {l : Launch} {K : CtxT} {M : Mm} {r s : Nat} (hr : r ≤ 99999) (hs : s < 5) : Ci l K 1 mX9_worthOf [.int (nI r), .int (nI s)] M (fun rv M' => rv = nI (woN r s) ∧ M' = M) := by
  refine ci_of (L := [some (.int (nI r)), some (.int (nI s))]) (by decide +kernel) (Nat.le_of_ble_eq_true rfl) rfl rfl (fun E => ?_)
  have hp : 10 ^ (4 - s) ≤ 10 ^ 4 := Nat.pow_le_pow_right (by decide) (by omega)
  have hp0 : 0 < 10 ^ (4 - s) := Nat.pow_pos (by decide)
  have hq := Nat.div_le_self r (10 ^ (4 - s))
  refine wp_iload_n (pc := 0) dX9_worthOf_0 rfl ?_
  refine wp_bipush (pc := 1) (x := nI 10) dX9_worthOf_1 bp_10 ?_
  refine wp_ic (pc := 3) (x := nI 4) dX9_worthOf_3 ic_4 ?_
  refine wp_iload_n (pc := 4) dX9_worthOf_4 rfl ?_
  refine wp_isub (pc := 5) dX9_worthOf_5 ?_
  refine wp_top (nI (4 - s)) (pk_sub (by omega)) ?_
  refine wf_callSi (pc := 6) dX9_worthOf_6 cl_X9_188 (cR_power (b := 10) (n := 4 - s) (by omega)) rfl rfl (Nat.le_of_ble_eq_true rfl) (by decide) ⟨Nat.le_refl _, Nat.le_refl _⟩ (fun r6 M6 q6 => ?_)
  rw [q6.1, q6.2]
  refine wp_idivN (pc := 9) dX9_worthOf_9 rfl rfl (by omega) hp0 (by omega) ?_
  refine wp_bipush (pc := 10) (x := nI 10) dX9_worthOf_10 bp_10 ?_
  refine wp_iremN (pc := 12) dX9_worthOf_12 rfl rfl (by omega) (by decide) (by decide) ?_
  refine wf_iret (pc := 13) dX9_worthOf_13 rfl ?_
  exact ⟨rfl, rfl⟩
theorem cR_wasAt {l : Launch} {K : CtxT} {M : Mm} {s : Sv} {B : Nat} (H : XM M s) (V : OkV B s) (hB : B ≤ 9999) {m d t : Nat} (hm : m < lM s.Λ) (hd : d ≤ lD s.Λ) (ht : t < 12) : Ci l K 0 mX9_wasAt [.ref (K.1 + 150), .int (nI m), .int (nI d), .int (nI t)] M (fun r M' => r = nI (swN s.Λ s.P m d t) ∧ M' = M) := by
  refine ci_of (L := [some (.ref (K.1 + 150)), some (.int (nI m)), some (.int (nI d)), some (.int (nI t))]) (by decide +kernel) (Nat.le_of_ble_eq_true rfl) rfl rfl (fun E => ?_)
  have hM := V.l.2.1
  have hD := V.l.1
  refine wp_iload_n (pc := 0) dX9_wasAt_0 rfl ?_
  refine wp_aload_n (pc := 1) dX9_wasAt_1 rfl ?_
  refine wf_getI (pc := 2) dX9_wasAt_2 fl_X9_69 lk_150 ?_
  rw [H.w.1]
  refine wp_icmp_ne (pc := 5) 18 dX9_wasAt_5 (by decide) (fun h5 => ?_) (fun h5 => ?_)
  · have hd2 : d < lD s.Λ := by rcases Nat.lt_or_ge d (lD s.Λ) with q | q; exact q; exact absurd (by rw [show d = lD s.Λ by omega]) h5
    refine wp_aload_n (pc := 18) dX9_wasAt_18 rfl ?_
    refine wf_getR (pc := 19) dX9_wasAt_19 fl_X9_35 lk_150 (H.r 150 16 158 rfl) ?_
    refine wp_iload_n (pc := 22) dX9_wasAt_22 rfl ?_
    refine wf_iald (pc := 23) (j := d) dX9_wasAt_23 lk_158 rfl (by omega) ?_
    obtain ⟨g1, g2⟩ := sN_dog V.p hd2
    obtain ⟨rr, rr9, er⟩ := (V.l.2.2.2.2.1 d hd2).1
    rw [show M.1 158 d = nI (sN s.P d) from (H.p.at (by omega)).trans g1]
    refine wp_aload_n (pc := 24) dX9_wasAt_24 rfl ?_
    refine wf_getR (pc := 25) dX9_wasAt_25 fl_X9_20 lk_150 (H.r 150 8 153 rfl) ?_
    refine wp_ic (pc := 28) (x := nI 4) dX9_wasAt_28 ic_4 ?_
    refine wp_iload_n (pc := 29) dX9_wasAt_29 rfl ?_
    refine wp_imul (pc := 30) dX9_wasAt_30 ?_
    refine wp_ic (pc := 31) (x := nI 1) dX9_wasAt_31 ic_1 ?_
    refine wp_iadd (pc := 32) dX9_wasAt_32 ?_
    refine wf_iald (pc := 33) (j := (4 * d + 1)) dX9_wasAt_33 lk_153 (by rw [pk_mul, nI_add]) (by omega) ?_
    rw [show M.1 153 (4 * d + 1) = nI rr from (H.w.2.2.2.2.1 d hd2).1.trans er]
    refine wp_ic (pc := 34) (x := nI 2) dX9_wasAt_34 ic_2 ?_
    refine wp_iremN (pc := 35) dX9_wasAt_35 rfl rfl (by omega) (by decide) (by decide) ?_
    refine wp_ic (pc := 36) (x := nI 1) dX9_wasAt_36 ic_1 ?_
    refine wp_icmp_ne (pc := 37) 44 dX9_wasAt_37 (by decide) (fun h37 => ?_) (fun h37 => ?_)
    · have ho : oddB s.Λ d = false := by unfold oddB; rw [er, nI_cl (by omega)]; exact decide_eq_false (fun q => h37 (by rw [q]))
      refine wp_ic (pc := 44) (x := nI 0) dX9_wasAt_44 ic_0 ?_
      refine wp_iadd (pc := 45) dX9_wasAt_45 ?_
      refine wp_ic (pc := 46) (x := nI 5) dX9_wasAt_46 ic_5 ?_
      refine wp_iremN (pc := 47) dX9_wasAt_47 (nI_add _ _) rfl (by omega) (by decide) (by decide) ?_
      refine wf_iret (pc := 48) dX9_wasAt_48 rfl ?_
      refine ⟨?_, rfl⟩
      unfold swN; rw [if_pos hd2, ho]; rfl
    · have ho : oddB s.Λ d = true := by unfold oddB; rw [er, nI_cl (by omega)]; exact decide_eq_true ((nI_eq (by omega) (by decide)).mp h37)
      refine wp_iload_n (pc := 40) dX9_wasAt_40 rfl ?_
      refine wp_goto (pc := 41) 45 dX9_wasAt_41 (by decide) ?_
      refine wp_iadd (pc := 45) dX9_wasAt_45 ?_
      refine wp_ic (pc := 46) (x := nI 5) dX9_wasAt_46 ic_5 ?_
      refine wp_iremN (pc := 47) dX9_wasAt_47 (nI_add _ _) rfl (by omega) (by decide) (by decide) ?_
      refine wf_iret (pc := 48) dX9_wasAt_48 rfl ?_
      refine ⟨?_, rfl⟩
      unfold swN; rw [if_pos hd2, ho]; rfl
  · have hdn : ¬ d < lD s.Λ := by have := (nI_eq (by omega) (by omega)).mp h5; omega
    refine wp_aload_n (pc := 8) dX9_wasAt_8 rfl ?_
    refine wf_getR (pc := 9) dX9_wasAt_9 fl_X9_35 lk_150 (H.r 150 16 158 rfl) ?_
    refine wp_bipush (pc := 12) (x := nI 13) dX9_wasAt_12 bp_13 ?_
    refine wp_iload_n (pc := 14) dX9_wasAt_14 rfl ?_
    refine wp_iadd (pc := 15) dX9_wasAt_15 ?_
    refine wf_iald (pc := 16) (j := (13 + m)) dX9_wasAt_16 lk_158 (nI_add _ _) (by omega) ?_
    obtain ⟨z, hz, ez⟩ := (V.p.2.2.1 m hm).2.1
    rw [show M.1 158 (13 + m) = nI z from (H.p.at (by omega)).trans ez]
    refine wf_iret (pc := 17) dX9_wasAt_17 rfl ?_
    refine ⟨?_, rfl⟩
    unfold swN sN; rw [if_neg hdn, ez, nI_cl (by omega)]
