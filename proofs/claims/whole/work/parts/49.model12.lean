theorem cR_power {l : Launch} {K : CtxT} {M : Mm} {b n : Nat} (hn : n < 2 ^ 31) : Ci l K 0 mX9_power [.int (nI b), .int (nI n)] M (fun r M' => r = nI (b ^ n) ∧ M' = M) := by
  refine ci_of (L := [some (.int (nI b)), some (.int (nI n)), none, none]) (by decide +kernel) (Nat.le_of_ble_eq_true rfl) rfl rfl (fun E => ?_)
  have loop : ∀ (n1 k : Nat), n1 = n - k → k ≤ n → Wp E K mX9_power 0 (0, 0) 4 [some (.int (nI b)), some (.int (nI n)), some (.int (nI (b ^ k))), some (.int (nI k))] [] 168 M 0 0 (zI E K (fun r M' => r = nI (b ^ n) ∧ M' = M)) := by
    intro n1
    induction n1 with
    | zero =>
      intro k hn hm
      refine wp_iload_n (pc := 4) dX9_power_4 rfl ?_
      refine wp_iload_n (pc := 5) dX9_power_5 rfl ?_
      refine wp_icmp_ge (pc := 6) 19 dX9_power_6 (by decide) (fun h6 => ?_) (fun h6 => ?_)
      · have e : k = n := by omega
        subst e
        refine wp_iload_n (pc := 19) dX9_power_19 rfl ?_
        refine wf_iret (pc := 20) dX9_power_20 rfl ?_
        exact ⟨rfl, rfl⟩
      · exact absurd (nI_le (by omega) (by omega)) h6
    | succ n1 ih =>
      intro k hn hm
      refine wp_iload_n (pc := 4) dX9_power_4 rfl ?_
      refine wp_iload_n (pc := 5) dX9_power_5 rfl ?_
      refine wp_icmp_ge (pc := 6) 19 dX9_power_6 (by decide) (fun h6 => ?_) (fun h6 => ?_)
      · exact absurd h6 (nI_ge (by omega) (by omega))
      · refine wp_iload_n (pc := 9) dX9_power_9 rfl ?_
        refine wp_iload_n (pc := 10) dX9_power_10 rfl ?_
        refine wp_imul (pc := 11) dX9_power_11 ?_
        refine wp_top (nI (b ^ (k + 1))) (by rw [pk_mul, Nat.pow_succ]) ?_
        refine wp_istore_n (pc := 12) (L' := [_, _, _, _]) dX9_power_12 (Nat.le_of_ble_eq_true rfl) rfl rfl ?_
        refine wp_iinc1 (pc := 13) (L' := [_, _, _, _]) dX9_power_13 rfl rfl rfl ?_
        refine wp_goto (pc := 16) 4 dX9_power_16 (by decide) ?_
        exact ih (k + 1) (by omega) (by omega)
  refine wp_ic (pc := 0) (x := nI 1) dX9_power_0 ic_1 ?_
  refine wp_istore_n (pc := 1) (L' := [_, _, _, _]) dX9_power_1 (Nat.le_of_ble_eq_true rfl) rfl rfl ?_
  refine wp_ic (pc := 2) (x := nI 0) dX9_power_2 ic_0 ?_
  refine wp_istore_n (pc := 3) (L' := [_, _, _, _]) dX9_power_3 (Nat.le_of_ble_eq_true rfl) rfl rfl ?_
  exact loop n 0 (by omega) (by omega)
theorem cR_worthOf {l : Launch} {K : CtxT} {M : Mm} {r s : Nat} (hr : r ≤ 99999) (hs : s < 5) : Ci l K 1 mX9_worthOf [.int (nI r), .int (nI s)] M (fun rv M' => rv = nI (woN r s) ∧ M' = M) := by
  refine ci_of (L := [some (.int (nI r)), some (.int (nI s))]) (by decide +kernel) (Nat.le_of_ble_eq_true rfl) rfl rfl (fun E => ?_)
  have hp : 10 ^ (4 - s) ≤ 10 ^ 4 := Nat.pow_le_pow_right (by decide) (by omega)
  have hp0 : 0 < 10 ^ (4 - s) := Nat.pow_pos (by decide)
  have hq := Nat.div_le_self r (10 ^ (4 - s))
  refine wp_iload_n (pc := 0) dX9_worthOf_0 rfl ?_
  refine wp_bipush (pc := 1) (x := nI 10) dX9_worthOf_1 bp_10 ?_
  refine wp_ic (pc := 3) (x := nI 4) dX9_worthOf_3 ic_4 ?_
  refine wp_iload_n (pc := 4) dX9_worthOf_4 rfl ?_
  refine wp_isub (pc := 5) dX9_worthOf_5 ?_
  refine wp_top (nI (4 - s)) (pk_sub (by omega)) ?_
  refine wf_callSi (pc := 6) dX9_worthOf_6 cl_X9_188 (cR_power (b := 10) (n := 4 - s) (by omega)) rfl rfl (Nat.le_of_ble_eq_true rfl) (by decide) ⟨Nat.le_refl _, Nat.le_refl _⟩ (fun r6 M6 q6 => ?_)
  rw [q6.1, q6.2]
  refine wp_idivN (pc := 9) dX9_worthOf_9 rfl rfl (by omega) hp0 (by omega) ?_
  refine wp_bipush (pc := 10) (x := nI 10) dX9_worthOf_10 bp_10 ?_
  refine wp_iremN (pc := 12) dX9_worthOf_12 rfl rfl (by omega) (by decide) (by decide) ?_
  refine wf_iret (pc := 13) dX9_worthOf_13 rfl ?_
  exact ⟨rfl, rfl⟩
