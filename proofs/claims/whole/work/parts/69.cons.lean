theorem con_X7 {l : Launch} {K : CtxT} {M : Mm} {t : Nat} (hT : IT t) (hz : ∀ j, M.1 (t) j = 0 ∧ M.2.1 (t) j = 0) : Ct l K 1 mX7_init [.ref (K.1 + t)] (t + 1) M 5 23 (fun v M' => v = none ∧ Zo (t) (t + 6) M M') := by
  refine ct_of (L := [some (.ref (K.1 + t))]) (by decide +kernel) (Nat.le_of_ble_eq_true rfl) rfl rfl (fun E hE => ?_)
  have z := Zp.start hz
  refine wp_aload_n (pc := 0) dX7_init_0 rfl ?_
  refine wp_objInit (pc := 1) dX7_init_1 oi_X7_3 (by decide) (by decide) ?_
  refine wp_aload_n (pc := 4) dX7_init_4 rfl ?_
  refine wp_ic (pc := 5) (x := nI 0) dX7_init_5 ic_0 ?_
  refine wp_putI (pc := 6) dX7_init_6 fl_X7_9 (fun h => by cases h) hT.1 (by omega) ?_
  have z := z.int (k := 0) (x := nI 0) (by first | rfl | (rw [if_pos rfl, (iv_L hW).2 0 (by decide)]; rfl))
  refine zp_hide z (fun N6 z => ?_)
  refine wp_aload_n (pc := 9) dX7_init_9 rfl ?_
  refine wp_ic (pc := 10) (x := nI 0) dX7_init_10 ic_0 ?_
  refine wp_putI (pc := 11) dX7_init_11 fl_X7_15 (fun h => by cases h) hT.1 (by omega) ?_
  have z := z.int (k := 1) (x := nI 0) (by first | rfl | (rw [if_pos rfl, (iv_L hW).2 1 (by decide)]; rfl))
  refine zp_hide z (fun N11 z => ?_)
  refine wp_aload_n (pc := 14) dX7_init_14 rfl ?_
  refine wp_ic (pc := 15) (x := nI 4) dX7_init_15 ic_4 ?_
  refine wp_newI (pc := 16) (N := 4) dX7_init_16 (nI_pos (by decide)) (nI_clamp (by decide)) (by decide) hT.2.1 (by decide) ka_int ?_
  refine wp_putR (pc := 18) dX7_init_18 fl_X7_18 (fun _ => ⟨rfl, _, rfl, rfl⟩) hT.1 (by omega) ?_
  have z := z.arr (kf := 2) (by omega) ⟨_, Or.inl hT.2.1⟩ (by rw [ir_T hT]; rfl)
  refine zp_hide z (fun N18 z => ?_)
  refine wp_aload_n (pc := 21) dX7_init_21 rfl ?_
  refine wp_ic (pc := 22) (x := nI 4) dX7_init_22 ic_4 ?_
  refine wp_newI (pc := 23) (N := 4) dX7_init_23 (nI_pos (by decide)) (nI_clamp (by decide)) (by decide) hT.2.2.1 (by decide) ka_int ?_
  refine wp_putR (pc := 25) dX7_init_25 fl_X7_22 (fun _ => ⟨rfl, _, rfl, rfl⟩) hT.1 (by omega) ?_
  have z := z.arr (kf := 3) (by omega) ⟨_, Or.inl hT.2.2.1⟩ (by rw [ir_T hT]; rfl)
  refine zp_hide z (fun N25 z => ?_)
  refine wp_aload_n (pc := 28) dX7_init_28 rfl ?_
  refine wp_ic (pc := 29) (x := nI 5) dX7_init_29 ic_5 ?_
  refine wp_newI (pc := 30) (N := 5) dX7_init_30 (nI_pos (by decide)) (nI_clamp (by decide)) (by decide) hT.2.2.2.1 (by decide) ka_int ?_
  refine wp_putR (pc := 32) dX7_init_32 fl_X7_25 (fun _ => ⟨rfl, _, rfl, rfl⟩) hT.1 (by omega) ?_
  have z := z.arr (kf := 4) (by omega) ⟨_, Or.inl hT.2.2.2.1⟩ (by rw [ir_T hT]; rfl)
  refine zp_hide z (fun N32 z => ?_)
  refine wp_aload_n (pc := 35) dX7_init_35 rfl ?_
  refine wp_ic (pc := 36) (x := nI 5) dX7_init_36 ic_5 ?_
  refine wp_newI (pc := 37) (N := 5) dX7_init_37 (nI_pos (by decide)) (nI_clamp (by decide)) (by decide) hT.2.2.2.2.1 (by decide) ka_int ?_
  refine wp_putR (pc := 39) dX7_init_39 fl_X7_28 (fun _ => ⟨rfl, _, rfl, rfl⟩) hT.1 (by omega) ?_
  have z := z.arr (kf := 5) (by omega) ⟨_, Or.inl hT.2.2.2.2.1⟩ (by rw [ir_T hT]; rfl)
  refine zp_hide z (fun N39 z => ?_)
  refine wp_aload_n (pc := 42) dX7_init_42 rfl ?_
  refine wp_ic (pc := 43) (x := nI 5) dX7_init_43 ic_5 ?_
  refine wp_newI (pc := 44) (N := 5) dX7_init_44 (nI_pos (by decide)) (nI_clamp (by decide)) (by decide) hT.2.2.2.2.2 (by decide) ka_int ?_
  refine wp_putR (pc := 46) dX7_init_46 fl_X7_31 (fun _ => ⟨rfl, _, rfl, rfl⟩) hT.1 (by omega) ?_
  have z := z.arr (kf := 6) (by omega) ⟨_, Or.inl hT.2.2.2.2.2⟩ (by rw [ir_T hT]; rfl)
  refine zp_hide z (fun N46 z => ?_)
  exact wp_vret (pc := 49) dX7_init_49 rfl ⟨rfl, z.fin (fun j c hc => by rw [ir_T hT] at hc; split at hc; (have : j = 2 ∨ j = 3 ∨ j = 4 ∨ j = 5 ∨ j = 6 := by omega); rcases this with h | h | h | h | h <;> simp [h]; cases hc) (Or.inr (iv_T hT))⟩
theorem con_X2 {l : Launch} {K : CtxT} {M : Mm} {w : Nat} (hW : IL w) (hz : ∀ j, M.1 (w) j = 0 ∧ M.2.1 (w) j = 0) : Ct l K 1 mX2_init [.ref (K.1 + w)] (w + 1) M 4 16 (fun v M' => v = none ∧ Zo (w) (w + 5) M M') := by
  refine ct_of (L := [some (.ref (K.1 + w))]) (by decide +kernel) (Nat.le_of_ble_eq_true rfl) rfl rfl (fun E hE => ?_)
  have z := Zp.start hz
  refine wp_aload_n (pc := 0) dX2_init_0 rfl ?_
  refine wp_objInit (pc := 1) dX2_init_1 oi_X2_3 (by decide) (by decide) ?_
  refine wp_aload_n (pc := 4) dX2_init_4 rfl ?_
  refine wp_ic (pc := 5) (x := nI 0) dX2_init_5 ic_0 ?_
  refine wp_putI (pc := 6) dX2_init_6 fl_X2_9 (fun h => by cases h) hW.1 (by omega) ?_
  have z := z.int (k := 0) (x := nI 0) (by first | rfl | (rw [if_pos rfl, (iv_L hW).2 0 (by decide)]; rfl))
  refine zp_hide z (fun N6 z => ?_)
  refine wp_aload_n (pc := 9) dX2_init_9 rfl ?_
  refine wp_ic (pc := 10) (x := nI 0) dX2_init_10 ic_0 ?_
  refine wp_putI (pc := 11) dX2_init_11 fl_X2_15 (fun h => by cases h) hW.1 (by omega) ?_
  have z := z.int (k := 1) (x := nI 0) (by first | rfl | (rw [if_pos rfl, (iv_L hW).2 1 (by decide)]; rfl))
  refine zp_hide z (fun N11 z => ?_)
  refine wp_aload_n (pc := 14) dX2_init_14 rfl ?_
  refine wp_bipush (pc := 15) (x := nI 12) dX2_init_15 bp_12 ?_
  refine wp_putI (pc := 17) dX2_init_17 fl_X2_18 (fun h => by cases h) hW.1 (by omega) ?_
  have z := z.lea (k := 2) (iv_L hW).1 (iv_L hW).2
  refine zp_hide z (fun N17 z => ?_)
  refine wp_aload_n (pc := 20) dX2_init_20 rfl ?_
  refine wp_ic (pc := 21) (x := nI 0) dX2_init_21 ic_0 ?_
  refine wp_putI (pc := 22) dX2_init_22 fl_X2_21 (fun h => by cases h) hW.1 (by omega) ?_
  have z := z.int (k := 3) (x := nI 0) (by first | rfl | (rw [if_pos rfl, (iv_L hW).2 3 (by decide)]; rfl))
  refine zp_hide z (fun N22 z => ?_)
  refine wp_aload_n (pc := 25) dX2_init_25 rfl ?_
  refine wp_ic (pc := 26) (x := nI 4) dX2_init_26 ic_4 ?_
  refine wp_newI (pc := 27) (N := 4) dX2_init_27 (nI_pos (by decide)) (nI_clamp (by decide)) (by decide) hW.2.1 (by decide) ka_int ?_
  refine wp_putR (pc := 29) dX2_init_29 fl_X2_24 (fun _ => ⟨rfl, _, rfl, rfl⟩) hW.1 (by omega) ?_
  have z := z.arr (kf := 4) (by omega) ⟨_, Or.inl hW.2.1⟩ (by rw [ir_L hW]; rfl)
  refine zp_hide z (fun N29 z => ?_)
  refine wp_aload_n (pc := 32) dX2_init_32 rfl ?_
  refine wp_ic (pc := 33) (x := nI 4) dX2_init_33 ic_4 ?_
  refine wp_newI (pc := 34) (N := 4) dX2_init_34 (nI_pos (by decide)) (nI_clamp (by decide)) (by decide) hW.2.2.1 (by decide) ka_int ?_
  refine wp_putR (pc := 36) dX2_init_36 fl_X2_28 (fun _ => ⟨rfl, _, rfl, rfl⟩) hW.1 (by omega) ?_
  have z := z.arr (kf := 5) (by omega) ⟨_, Or.inl hW.2.2.1⟩ (by rw [ir_L hW]; rfl)
  refine zp_hide z (fun N36 z => ?_)
  refine wp_aload_n (pc := 39) dX2_init_39 rfl ?_
  refine wp_ic (pc := 40) (x := nI 4) dX2_init_40 ic_4 ?_
  refine wp_newI (pc := 41) (N := 4) dX2_init_41 (nI_pos (by decide)) (nI_clamp (by decide)) (by decide) hW.2.2.2.1 (by decide) ka_int ?_
  refine wp_putR (pc := 43) dX2_init_43 fl_X2_31 (fun _ => ⟨rfl, _, rfl, rfl⟩) hW.1 (by omega) ?_
  have z := z.arr (kf := 6) (by omega) ⟨_, Or.inl hW.2.2.2.1⟩ (by rw [ir_L hW]; rfl)
  refine zp_hide z (fun N43 z => ?_)
  refine wp_aload_n (pc := 46) dX2_init_46 rfl ?_
  refine wp_ic (pc := 47) (x := nI 4) dX2_init_47 ic_4 ?_
  refine wp_newI (pc := 48) (N := 4) dX2_init_48 (nI_pos (by decide)) (nI_clamp (by decide)) (by decide) hW.2.2.2.2 (by decide) ka_int ?_
  refine wp_putR (pc := 50) dX2_init_50 fl_X2_34 (fun _ => ⟨rfl, _, rfl, rfl⟩) hW.1 (by omega) ?_
  have z := z.arr (kf := 7) (by omega) ⟨_, Or.inl hW.2.2.2.2⟩ (by rw [ir_L hW]; rfl)
  refine zp_hide z (fun N50 z => ?_)
  exact wp_vret (pc := 53) dX2_init_53 rfl ⟨rfl, z.fin (fun j c hc => by rw [ir_L hW] at hc; split at hc; (have : j = 4 ∨ j = 5 ∨ j = 6 ∨ j = 7 := by omega); rcases this with h | h | h | h <;> simp [h]; cases hc) (Or.inl rfl)⟩
theorem con_X3 {l : Launch} {K : CtxT} {M : Mm}  (hz : ∀ j, M.1 (2) j = 0 ∧ M.2.1 (2) j = 0) : Ct l K 2 mX3_init [.ref (K.1 + 2)] (3) M 11 54 (fun v M' => v = none ∧ Zo (2) (14) M M') := by
  refine ct_of (L := [some (.ref (K.1 + 2))]) (by decide +kernel) (Nat.le_of_ble_eq_true rfl) rfl rfl (fun E hE => ?_)
  have z := Zp.start hz
  refine wp_aload_n (pc := 0) dX3_init_0 rfl ?_
  refine wp_objInit (pc := 1) dX3_init_1 oi_X3_3 (by decide) (by decide) ?_
  refine wp_aload_n (pc := 4) dX3_init_4 rfl ?_
  refine wp_new (pc := 5) (ci := 2) dX3_init_5 rfl kl_X3_9 ki_X2 kj_X2 rfl (by decide) ?_
  refine wp_dup (pc := 8) dX3_init_8 rfl ?_
  refine wp_callIN (pc := 9) dX3_init_9 cl_X3_11 (con_X2 (w := 3) IL_3 (wZ_z _ _)) rfl rfl (Nat.le_of_ble_eq_true rfl) (by decide) (by decide) (fun v9 M9 q9 => ?_)
  obtain ⟨rfl, y9⟩ := q9
  refine wp_putR (pc := 12) dX3_init_12 fl_X3_12 (fun _ => ⟨rfl, _, rfl, rfl⟩) rfl (by omega) ?_
  have z := z.obj (kf := 0) (m := 5) (by omega) y9.w0 rfl
  refine zp_hide z (fun N12 z => ?_)
  refine wp_aload_n (pc := 15) dX3_init_15 rfl ?_
  refine wp_new (pc := 16) (ci := 6) dX3_init_16 rfl kl_X3_18 ki_X7 kj_X7 rfl (by decide) ?_
  refine wp_dup (pc := 19) dX3_init_19 rfl ?_
  refine wp_callIN (pc := 20) dX3_init_20 cl_X3_20 (con_X7 (t := 8) IT_8 (wZ_z _ _)) rfl rfl (Nat.le_of_ble_eq_true rfl) (by decide) (by decide) (fun v20 M20 q20 => ?_)
  obtain ⟨rfl, y20⟩ := q20
  refine wp_putR (pc := 23) dX3_init_23 fl_X3_21 (fun _ => ⟨rfl, _, rfl, rfl⟩) rfl (by omega) ?_
  have z := z.obj (kf := 1) (m := 6) (by omega) y20.w0 rfl
  refine zp_hide z (fun N23 z => ?_)
  refine wp_aload_n (pc := 26) dX3_init_26 rfl ?_
  refine wp_ic (pc := 27) (x := nI 0) dX3_init_27 ic_0 ?_
  refine wp_putI (pc := 28) dX3_init_28 fl_X3_25 (fun h => by cases h) rfl (by omega) ?_
  have z := z.int (k := 2) (x := nI 0) (by first | rfl | (rw [if_pos rfl, (iv_L hW).2 2 (by decide)]; rfl))
  refine zp_hide z (fun N28 z => ?_)
  refine wp_aload_n (pc := 31) dX3_init_31 rfl ?_
  refine wp_ic (pc := 32) (x := nI 0) dX3_init_32 ic_0 ?_
  refine wp_putI (pc := 33) dX3_init_33 fl_X3_29 (fun h => by cases h) rfl (by omega) ?_
  have z := z.int (k := 3) (x := nI 0) (by first | rfl | (rw [if_pos rfl, (iv_L hW).2 3 (by decide)]; rfl))
  refine zp_hide z (fun N33 z => ?_)
  refine wp_aload_n (pc := 36) dX3_init_36 rfl ?_
  refine wp_ic (pc := 37) (x := nI 0) dX3_init_37 ic_0 ?_
  refine wp_putI (pc := 38) dX3_init_38 fl_X3_32 (fun h => by cases h) rfl (by omega) ?_
  have z := z.int (k := 4) (x := nI 0) (by first | rfl | (rw [if_pos rfl, (iv_L hW).2 4 (by decide)]; rfl))
  refine zp_hide z (fun N38 z => ?_)
  exact wp_vret (pc := 41) dX3_init_41 rfl ⟨rfl, z.fin (fun j c hc => by have h := ir_lo_X3 j c hc; rcases h with h | h <;> simp [h]) (Or.inr (fun j => by unfold iv; rw [if_neg (by rintro (q | q); exact absurd q.1 (by decide); exact absurd q.1 (by decide))]))⟩
theorem con_X1 {l : Launch} {K : CtxT} {M : Mm}  (hz : ∀ j, M.1 (131) j = 0 ∧ M.2.1 (131) j = 0) : Ct l K 1 mX1_init [.ref (K.1 + 131)] (132) M 12 65 (fun v M' => v = none ∧ Zo (131) (144) M M') := by
  refine ct_of (L := [some (.ref (K.1 + 131))]) (by decide +kernel) (Nat.le_of_ble_eq_true rfl) rfl rfl (fun E hE => ?_)
  have z := Zp.start hz
  refine wp_aload_n (pc := 0) dX1_init_0 rfl ?_
  refine wp_objInit (pc := 1) dX1_init_1 oi_X1_3 (by decide) (by decide) ?_
  refine wp_aload_n (pc := 4) dX1_init_4 rfl ?_
  refine wp_bipush (pc := 5) (x := nI 7) dX1_init_5 bp_7 ?_
  refine wp_newI (pc := 7) (N := 7) dX1_init_7 (nI_pos (by decide)) (nI_clamp (by decide)) (by decide) rfl (by decide) ka_int ?_
  refine wp_putR (pc := 9) dX1_init_9 fl_X1_9 (fun _ => ⟨rfl, _, rfl, rfl⟩) rfl (by omega) ?_
  have z := z.arr (kf := 0) (by omega) ⟨_, Or.inl rfl⟩ rfl
  refine zp_hide z (fun N9 z => ?_)
  refine wp_aload_n (pc := 12) dX1_init_12 rfl ?_
  refine wp_bipush (pc := 13) (x := nI 8) dX1_init_13 bp_8 ?_
  refine wp_ic (pc := 15) (x := nI 5) dX1_init_15 ic_5 ?_
  refine wp_multi (pc := 16) (N := 8) (m := 5) dX1_init_16 kl_X1_15 ka_int (nI_pos (by decide)) (nI_pos (by decide)) (nI_clamp (by decide)) (nI_clamp (by decide)) (by decide) (by decide) rfl (by decide +kernel) (by decide) ?_
  refine wp_putR (pc := 20) dX1_init_20 fl_X1_17 (fun _ => ⟨rfl, _, rfl, rfl⟩) rfl (by omega) ?_
  have z := z.obj (kf := 1) (m := 9) (by omega) Zo.multi rfl
  refine zp_hide z (fun N20 z => ?_)
  refine wp_aload_n (pc := 23) dX1_init_23 rfl ?_
  refine wp_ic (pc := 24) (x := nI 5) dX1_init_24 ic_5 ?_
  refine wp_newI (pc := 25) (N := 5) dX1_init_25 (nI_pos (by decide)) (nI_clamp (by decide)) (by decide) rfl (by decide) ka_int ?_
  refine wp_putR (pc := 27) dX1_init_27 fl_X1_20 (fun h => by cases h) rfl (by omega) ?_
  have z := z.arr (kf := 2) (by omega) ⟨_, Or.inl rfl⟩ rfl
  refine zp_hide z (fun N27 z => ?_)
  refine wp_aload_n (pc := 30) dX1_init_30 rfl ?_
  refine wp_ic (pc := 31) (x := nI 5) dX1_init_31 ic_5 ?_
  refine wp_newI (pc := 32) (N := 5) dX1_init_32 (nI_pos (by decide)) (nI_clamp (by decide)) (by decide) rfl (by decide) ka_int ?_
  refine wp_putR (pc := 34) dX1_init_34 fl_X1_23 (fun h => by cases h) rfl (by omega) ?_
  have z := z.arr (kf := 3) (by omega) ⟨_, Or.inl rfl⟩ rfl
  refine zp_hide z (fun N34 z => ?_)
  exact wp_vret (pc := 37) dX1_init_37 rfl ⟨rfl, z.fin (fun j c hc => by have h := ir_lo_X1 j c hc; rcases h with h | h | h | h <;> simp [h]) (Or.inr (fun j => by unfold iv; rw [if_neg (by rintro (q | q); exact absurd q.1 (by decide); exact absurd q.1 (by decide))]))⟩
theorem con_X5 {l : Launch} {K : CtxT} {M : Mm}  (hz : ∀ j, M.1 (144) j = 0 ∧ M.2.1 (144) j = 0) : Ct l K 1 mX5_init [.ref (K.1 + 144)] (145) M 5 27 (fun v M' => v = none ∧ Zo (144) (150) M M') := by
  refine ct_of (L := [some (.ref (K.1 + 144))]) (by decide +kernel) (Nat.le_of_ble_eq_true rfl) rfl rfl (fun E hE => ?_)
  have z := Zp.start hz
  refine wp_aload_n (pc := 0) dX5_init_0 rfl ?_
  refine wp_objInit (pc := 1) dX5_init_1 oi_X5_3 (by decide) (by decide) ?_
  refine wp_aload_n (pc := 4) dX5_init_4 rfl ?_
  refine wp_ic (pc := 5) (x := nI 0) dX5_init_5 ic_0 ?_
  refine wp_putI (pc := 6) dX5_init_6 fl_X5_9 (fun h => by cases h) rfl (by omega) ?_
  have z := z.int (k := 0) (x := nI 0) (by first | rfl | (rw [if_pos rfl, (iv_L hW).2 0 (by decide)]; rfl))
  refine zp_hide z (fun N6 z => ?_)
  refine wp_aload_n (pc := 9) dX5_init_9 rfl ?_
  refine wp_bipush (pc := 10) (x := nI 6) dX5_init_10 bp_6 ?_
  refine wp_newI (pc := 12) (N := 6) dX5_init_12 (nI_pos (by decide)) (nI_clamp (by decide)) (by decide) rfl (by decide) ka_int ?_
  refine wp_putR (pc := 14) dX5_init_14 fl_X5_15 (fun _ => ⟨rfl, _, rfl, rfl⟩) rfl (by omega) ?_
  have z := z.arr (kf := 1) (by omega) ⟨_, Or.inl rfl⟩ rfl
  refine zp_hide z (fun N14 z => ?_)
  refine wp_aload_n (pc := 17) dX5_init_17 rfl ?_
  refine wp_bipush (pc := 18) (x := nI 6) dX5_init_18 bp_6 ?_
  refine wp_newI (pc := 20) (N := 6) dX5_init_20 (nI_pos (by decide)) (nI_clamp (by decide)) (by decide) rfl (by decide) ka_int ?_
  refine wp_putR (pc := 22) dX5_init_22 fl_X5_19 (fun _ => ⟨rfl, _, rfl, rfl⟩) rfl (by omega) ?_
  have z := z.arr (kf := 2) (by omega) ⟨_, Or.inl rfl⟩ rfl
  refine zp_hide z (fun N22 z => ?_)
  refine wp_aload_n (pc := 25) dX5_init_25 rfl ?_
  refine wp_bipush (pc := 26) (x := nI 6) dX5_init_26 bp_6 ?_
  refine wp_newI (pc := 28) (N := 6) dX5_init_28 (nI_pos (by decide)) (nI_clamp (by decide)) (by decide) rfl (by decide) ka_int ?_
  refine wp_putR (pc := 30) dX5_init_30 fl_X5_22 (fun _ => ⟨rfl, _, rfl, rfl⟩) rfl (by omega) ?_
  have z := z.arr (kf := 3) (by omega) ⟨_, Or.inl rfl⟩ rfl
  refine zp_hide z (fun N30 z => ?_)
  refine wp_aload_n (pc := 33) dX5_init_33 rfl ?_
  refine wp_ic (pc := 34) (x := nI 5) dX5_init_34 ic_5 ?_
  refine wp_newI (pc := 35) (N := 5) dX5_init_35 (nI_pos (by decide)) (nI_clamp (by decide)) (by decide) rfl (by decide) ka_int ?_
  refine wp_putR (pc := 37) dX5_init_37 fl_X5_25 (fun _ => ⟨rfl, _, rfl, rfl⟩) rfl (by omega) ?_
  have z := z.arr (kf := 4) (by omega) ⟨_, Or.inl rfl⟩ rfl
  refine zp_hide z (fun N37 z => ?_)
  refine wp_aload_n (pc := 40) dX5_init_40 rfl ?_
  refine wp_ic (pc := 41) (x := nI 4) dX5_init_41 ic_4 ?_
  refine wp_newI (pc := 42) (N := 4) dX5_init_42 (nI_pos (by decide)) (nI_clamp (by decide)) (by decide) rfl (by decide) ka_int ?_
  refine wp_putR (pc := 44) dX5_init_44 fl_X5_28 (fun _ => ⟨rfl, _, rfl, rfl⟩) rfl (by omega) ?_
  have z := z.arr (kf := 5) (by omega) ⟨_, Or.inl rfl⟩ rfl
  refine zp_hide z (fun N44 z => ?_)
  exact wp_vret (pc := 47) dX5_init_47 rfl ⟨rfl, z.fin (fun j c hc => by have h := ir_lo_X5 j c hc; rcases h with h | h | h | h | h <;> simp [h]) (Or.inr (fun j => by unfold iv; rw [if_neg (by rintro (q | q); exact absurd q.1 (by decide); exact absurd q.1 (by decide))]))⟩
theorem con_X0 {l : Launch} {K : CtxT} {M : Mm}  (hz : ∀ j, M.1 (31) j = 0 ∧ M.2.1 (31) j = 0) : Ct l K 2 mX0_init [.ref (K.1 + 31)] (32) M 85 434 (fun v M' => v = none ∧ Zo (31) (117) M M') := by
  refine ct_of (L := [some (.ref (K.1 + 31)), none]) (by decide +kernel) (Nat.le_of_ble_eq_true rfl) rfl rfl (fun E hE => ?_)
  have z := Zp.start hz
  refine wp_aload_n (pc := 0) dX0_init_0 rfl ?_
  refine wp_objInit (pc := 1) dX0_init_1 oi_X0_3 (by decide) (by decide) ?_
  refine wp_aload_n (pc := 4) dX0_init_4 rfl ?_
  refine wp_ic (pc := 5) (x := nI 0) dX0_init_5 ic_0 ?_
  refine wp_putI (pc := 6) dX0_init_6 fl_X0_9 (fun h => by cases h) rfl (by omega) ?_
  have z := z.int (k := 0) (x := nI 0) (by first | rfl | (rw [if_pos rfl, (iv_L hW).2 0 (by decide)]; rfl))
  refine zp_hide z (fun N6 z => ?_)
  refine wp_aload_n (pc := 9) dX0_init_9 rfl ?_
  refine wp_bipush (pc := 10) (x := nI 14) dX0_init_10 bp_14 ?_
  refine wp_newT (pc := 12) (N := 14) dX0_init_12 kl_X0_15 (nI_pos (by decide)) (nI_clamp (by decide)) (by decide) rfl (by decide) ?_
  refine wp_putR (pc := 15) dX0_init_15 fl_X0_17 (fun _ => ⟨rfl, _, rfl, rfl⟩) rfl (by omega) ?_
  have z := z.ref (kf := 1) (by omega) rfl
  refine zp_hide3 (b := 32) z (wZ_z N6 32) (fun N z0 h32 => ?_)
  have loop : ∀ (q i : Nat) (M1 : Mm), q = 14 - i → i ≤ 14 → Zp 32 (33 + 6 * i) N M1 (fun j => j < i) false → Wp E K mX0_init 2 (85, 434) 20 [some (.ref (K.1 + 31)), some (.int (nI i))] [] (33 + 6 * i) M1 (1 + 6 * i) (14 + 30 * i) (zM E K (32 + 85) 85 434 (fun v M' => v = none ∧ Zo 31 117 M M')) := by
    intro q
    induction q with
    | zero =>
      intro i M1 hq hi y
      obtain rfl : i = 14 := by omega
      refine wp_iload_n (pc := 20) dX0_init_20 rfl ?_
      refine wp_bipush (pc := 21) (x := nI 14) dX0_init_21 bp_14 ?_
      refine wp_icmp_ge (pc := 23) 45 dX0_init_23 (by decide) (fun h => ?_) (fun h => ?_)
      · refine wp_vret (pc := 45) dX0_init_45 rfl ⟨rfl, ?_⟩
        have w : Zo 32 (32 + 85) N M1 := y.fin (fun j c hc => ir_32 hc) (Or.inr (iv_r rfl (by decide)))
        exact (z0.blk (by decide) w).fin (fun j c hc => by have h := ir_lo_X0 j c hc; simp [h]) (Or.inr (fun j => by unfold iv; rw [if_neg (by rintro (q | q); exact absurd q.1 (by decide); exact absurd q.1 (by decide))]))
      · exact absurd (nI_le (Nat.le_refl 14) (by decide)) h
    | succ q ih =>
      intro i M1 hq hi y
      have hi2 : i < 14 := by omega
      have hIT := (IT_acts i (by omega))
      have hg : M1.2.2 31 1 = some 32 := (y.1 31 (by decide) 1).2.2.trans (z0.2.2.2 1 32 (Or.inl rfl) rfl)
      refine wp_iload_n (pc := 20) dX0_init_20 rfl ?_
      refine wp_bipush (pc := 21) (x := nI 14) dX0_init_21 bp_14 ?_
      refine wp_icmp_ge (pc := 23) 45 dX0_init_23 (by decide) (fun h => ?_) (fun h => ?_)
      · exact absurd h (nI_ge hi2 (by decide))
      refine wp_aload_n (pc := 26) dX0_init_26 rfl ?_
      refine wp_getf (pc := 27) dX0_init_27 fl_X0_17 rfl (by omega) ?_
      rw [show fv K.1 M1 31 1 2 = .ref (K.1 + 32) by simp [fv, va_rf, hg]]
      refine wp_iload_n (pc := 30) dX0_init_30 rfl ?_
      refine wp_new (pc := 31) (ci := 6) dX0_init_31 rfl kl_X0_15 ki_X7 kj_X7 hIT.1 ⟨by show _ ≤ 85; omega, by show _ ≤ 434; omega⟩ ?_
      refine wp_dup (pc := 34) dX0_init_34 rfl ?_
      refine wp_callIN (pc := 35) dX0_init_35 cl_X0_21 (con_X7 (t := 33 + 6 * i) hIT (wZ_z _ _)) rfl rfl (Nat.le_of_ble_eq_true rfl) (by decide) ⟨by show _ ≤ 85; omega, by show _ ≤ 434; omega⟩ (fun v M2 q2 => ?_)
      obtain ⟨rfl, y2⟩ := q2
      refine wp_aastT (pc := 38) dX0_init_38 (show lk 32 = (11, 14) from rfl) (by omega) hIT.1 (by omega) (vp_in_nI hi2 (by decide)) ?_
      rw [nI_clamp (by omega)]
      have y3 := y.obj (kf := i) (by omega) y2.w0 (if_pos ⟨rfl, hi2⟩)
      refine wp_iinc1 (pc := 39) (L' := [_, _]) dX0_init_39 rfl rfl rfl ?_
      refine wp_goto (pc := 42) 20 dX0_init_42 (by decide) ?_
      have h9 := ih (i + 1) _ (by omega) (by omega) (show Zp 32 (33 + 6 * (i + 1)) N _ (fun j => j < i + 1) false from y3.mono (fun j hj => by omega))
      exact h9
  refine wp_ic (pc := 18) (x := nI 0) dX0_init_18 ic_0 ?_
  refine wp_istore_n (pc := 19) (L' := [_, _]) dX0_init_19 (Nat.le_of_ble_eq_true rfl) rfl rfl ?_
  exact loop 14 0 N (by decide) (by decide) ((Zp.start h32).mono (fun j hj => absurd hj (Nat.not_lt_zero _)))
theorem con_X6 {l : Launch} {K : CtxT} {M : Mm}  (hz : ∀ j, M.1 (117) j = 0 ∧ M.2.1 (117) j = 0) : Ct l K 2 mX6_init [.ref (K.1 + 117)] (118) M 13 62 (fun v M' => v = none ∧ Zo (117) (131) M M') := by
  refine ct_of (L := [some (.ref (K.1 + 117)), none]) (by decide +kernel) (Nat.le_of_ble_eq_true rfl) rfl rfl (fun E hE => ?_)
  have z := Zp.start hz
  refine wp_aload_n (pc := 0) dX6_init_0 rfl ?_
  refine wp_objInit (pc := 1) dX6_init_1 oi_X6_3 (by decide) (by decide) ?_
  refine wp_aload_n (pc := 4) dX6_init_4 rfl ?_
  refine wp_ic (pc := 5) (x := nI 2) dX6_init_5 ic_2 ?_
  refine wp_newT (pc := 6) (N := 2) dX6_init_6 kl_X6_9 (nI_pos (by decide)) (nI_clamp (by decide)) (by decide) rfl (by decide) ?_
  refine wp_putR (pc := 9) dX6_init_9 fl_X6_11 (fun _ => ⟨rfl, _, rfl, rfl⟩) rfl (by omega) ?_
  have z := z.ref (kf := 0) (by omega) rfl
  refine zp_hide3 (b := 118) z (wZ_z M 118) (fun N1 z0 h1 => ?_)
  refine wp_aload_n (pc := 12) dX6_init_12 rfl ?_
  refine wp_ic (pc := 13) (x := nI 0) dX6_init_13 ic_0 ?_
  refine wp_putI (pc := 14) dX6_init_14 fl_X6_17 (fun h => by cases h) rfl (by omega) ?_
  have z0 := z0.int (k := 1) (x := nI 0) rfl
  refine zp_hide3 (b := 118) z0 (fun j => ⟨(wI_na (by decide)).trans (h1 j).1, (h1 j).2⟩) (fun N z0 h32 => ?_)
  have loop : ∀ (q i : Nat) (M1 : Mm), q = 2 - i → i ≤ 2 → Zp 118 (119 + 6 * i) N M1 (fun j => j < i) false → Wp E K mX6_init 2 (13, 62) 19 [some (.ref (K.1 + 117)), some (.int (nI i))] [] (119 + 6 * i) M1 (1 + 6 * i) (2 + 30 * i) (zM E K (118 + 13) 13 62 (fun v M' => v = none ∧ Zo 117 131 M M')) := by
    intro q
    induction q with
    | zero =>
      intro i M1 hq hi y
      obtain rfl : i = 2 := by omega
      refine wp_iload_n (pc := 19) dX6_init_19 rfl ?_
      refine wp_ic (pc := 20) (x := nI 2) dX6_init_20 ic_2 ?_
      refine wp_icmp_ge (pc := 21) 43 dX6_init_21 (by decide) (fun h => ?_) (fun h => ?_)
      · refine wp_vret (pc := 43) dX6_init_43 rfl ⟨rfl, ?_⟩
        have w : Zo 118 (118 + 13) N M1 := y.fin (fun j c hc => ir_118 hc) (Or.inr (iv_r rfl (by decide)))
        exact (z0.blk (by decide) w).fin (fun j c hc => by have h := ir_lo_X6 j c hc; simp [h]) (Or.inr (fun j => by unfold iv; rw [if_neg (by rintro (q | q); exact absurd q.1 (by decide); exact absurd q.1 (by decide))]))
      · exact absurd (nI_le (Nat.le_refl 2) (by decide)) h
    | succ q ih =>
      intro i M1 hq hi y
      have hi2 : i < 2 := by omega
      have hIT := (IT_slots i (by omega))
      have hg : M1.2.2 117 0 = some 118 := (y.1 117 (by decide) 0).2.2.trans (z0.2.2.2 0 118 (Or.inl rfl) rfl)
      refine wp_iload_n (pc := 19) dX6_init_19 rfl ?_
      refine wp_ic (pc := 20) (x := nI 2) dX6_init_20 ic_2 ?_
      refine wp_icmp_ge (pc := 21) 43 dX6_init_21 (by decide) (fun h => ?_) (fun h => ?_)
      · exact absurd h (nI_ge hi2 (by decide))
      refine wp_aload_n (pc := 24) dX6_init_24 rfl ?_
      refine wp_getf (pc := 25) dX6_init_25 fl_X6_11 rfl (by omega) ?_
      rw [show fv K.1 M1 117 0 2 = .ref (K.1 + 118) by simp [fv, va_rf, hg]]
      refine wp_iload_n (pc := 28) dX6_init_28 rfl ?_
      refine wp_new (pc := 29) (ci := 6) dX6_init_29 rfl kl_X6_9 ki_X7 kj_X7 hIT.1 ⟨by show _ ≤ 13; omega, by show _ ≤ 62; omega⟩ ?_
      refine wp_dup (pc := 32) dX6_init_32 rfl ?_
      refine wp_callIN (pc := 33) dX6_init_33 cl_X6_21 (con_X7 (t := 119 + 6 * i) hIT (wZ_z _ _)) rfl rfl (Nat.le_of_ble_eq_true rfl) (by decide) ⟨by show _ ≤ 13; omega, by show _ ≤ 62; omega⟩ (fun v M2 q2 => ?_)
      obtain ⟨rfl, y2⟩ := q2
      refine wp_aastT (pc := 36) dX6_init_36 (show lk 118 = (11, 2) from rfl) (by omega) hIT.1 (by omega) (vp_in_nI hi2 (by decide)) ?_
      rw [nI_clamp (by omega)]
      have y3 := y.obj (kf := i) (by omega) y2.w0 (by show (if i < 2 then some (119 + 6 * i) else none) = _; exact if_pos hi2)
      refine wp_iinc1 (pc := 37) (L' := [_, _]) dX6_init_37 rfl rfl rfl ?_
      refine wp_goto (pc := 40) 19 dX6_init_40 (by decide) ?_
      have h9 := ih (i + 1) _ (by omega) (by omega) (show Zp 118 (119 + 6 * (i + 1)) N _ (fun j => j < i + 1) false from y3.mono (fun j hj => by omega))
      exact h9
  refine wp_ic (pc := 17) (x := nI 0) dX6_init_17 ic_0 ?_
  refine wp_istore_n (pc := 18) (L' := [_, _]) dX6_init_18 (Nat.le_of_ble_eq_true rfl) rfl rfl ?_
  exact loop 2 0 N (by decide) (by decide) ((Zp.start h32).mono (fun j hj => absurd hj (Nat.not_lt_zero _)))
theorem con_X8 {l : Launch} {K : CtxT} {M : Mm}  (hz : ∀ j, M.1 (0) j = 0 ∧ M.2.1 (0) j = 0) : Ct l K 3 mX8_init [.ref (K.1 + 0)] (1) M 149 805 (fun v M' => v = none ∧ Zo (0) (150) M M') := by
  refine ct_of (L := [some (.ref (K.1 + 0))]) (by decide +kernel) (Nat.le_of_ble_eq_true rfl) rfl rfl (fun E hE => ?_)
  have z := Zp.start hz
  refine wp_aload_n (pc := 0) dX8_init_0 rfl ?_
  refine wp_objInit (pc := 1) dX8_init_1 oi_X8_1 (by decide) (by decide) ?_
  refine wp_aload_n (pc := 4) dX8_init_4 rfl ?_
  refine wp_bipush (pc := 5) (x := nI 60) dX8_init_5 bp_60 ?_
  refine wp_newI (pc := 7) (N := 60) dX8_init_7 (nI_pos (by decide)) (nI_clamp (by decide)) (by decide) rfl (by decide) ka_int ?_
  refine wp_putR (pc := 9) dX8_init_9 fl_X8_9 (fun _ => ⟨rfl, _, rfl, rfl⟩) rfl (by omega) ?_
  have z := z.arr (kf := 0) (by omega) ⟨_, Or.inl rfl⟩ rfl
  refine zp_hide z (fun N9 z => ?_)
  refine wp_aload_n (pc := 12) dX8_init_12 rfl ?_
  refine wp_ic (pc := 13) (x := nI 0) dX8_init_13 ic_0 ?_
  refine wp_putI (pc := 14) dX8_init_14 fl_X8_13 (fun h => by cases h) rfl (by omega) ?_
  have z := z.int (k := 1) (x := nI 0) (by first | rfl | (rw [if_pos rfl, (iv_L hW).2 1 (by decide)]; rfl))
  refine zp_hide z (fun N14 z => ?_)
  refine wp_aload_n (pc := 17) dX8_init_17 rfl ?_
  refine wp_new (pc := 18) (ci := 3) dX8_init_18 rfl kl_X8_17 ki_X3 kj_X3 rfl (by decide) ?_
  refine wp_dup (pc := 21) dX8_init_21 rfl ?_
  refine wp_callIN (pc := 22) dX8_init_22 cl_X8_19 (con_X3 (wZ_z _ _)) rfl rfl (Nat.le_of_ble_eq_true rfl) (by decide) (by decide) (fun v22 M22 q22 => ?_)
  obtain ⟨rfl, y22⟩ := q22
  refine wp_putR (pc := 25) dX8_init_25 fl_X8_20 (fun _ => ⟨rfl, _, rfl, rfl⟩) rfl (by omega) ?_
  have z := z.obj (kf := 2) (m := 12) (by omega) y22.w0 rfl
  refine zp_hide z (fun N25 z => ?_)
  refine wp_aload_n (pc := 28) dX8_init_28 rfl ?_
  refine wp_new (pc := 29) (ci := 2) dX8_init_29 rfl kl_X8_24 ki_X2 kj_X2 rfl (by decide) ?_
  refine wp_dup (pc := 32) dX8_init_32 rfl ?_
  refine wp_callIN (pc := 33) dX8_init_33 cl_X8_26 (con_X2 (w := 14) IL_14 (wZ_z _ _)) rfl rfl (Nat.le_of_ble_eq_true rfl) (by decide) (by decide) (fun v33 M33 q33 => ?_)
  obtain ⟨rfl, y33⟩ := q33
  refine wp_putR (pc := 36) dX8_init_36 fl_X8_27 (fun _ => ⟨rfl, _, rfl, rfl⟩) rfl (by omega) ?_
  have z := z.obj (kf := 3) (m := 5) (by omega) y33.w0 rfl
  refine zp_hide z (fun N36 z => ?_)
  refine wp_aload_n (pc := 39) dX8_init_39 rfl ?_
  refine wp_new (pc := 40) (ci := 6) dX8_init_40 rfl kl_X8_31 ki_X7 kj_X7 rfl (by decide) ?_
  refine wp_dup (pc := 43) dX8_init_43 rfl ?_
  refine wp_callIN (pc := 44) dX8_init_44 cl_X8_33 (con_X7 (t := 19) IT_19 (wZ_z _ _)) rfl rfl (Nat.le_of_ble_eq_true rfl) (by decide) (by decide) (fun v44 M44 q44 => ?_)
  obtain ⟨rfl, y44⟩ := q44
  refine wp_putR (pc := 47) dX8_init_47 fl_X8_34 (fun _ => ⟨rfl, _, rfl, rfl⟩) rfl (by omega) ?_
  have z := z.obj (kf := 4) (m := 6) (by omega) y44.w0 rfl
  refine zp_hide z (fun N47 z => ?_)
  refine wp_aload_n (pc := 50) dX8_init_50 rfl ?_
  refine wp_new (pc := 51) (ci := 6) dX8_init_51 rfl kl_X8_31 ki_X7 kj_X7 rfl (by decide) ?_
  refine wp_dup (pc := 54) dX8_init_54 rfl ?_
  refine wp_callIN (pc := 55) dX8_init_55 cl_X8_33 (con_X7 (t := 25) IT_25 (wZ_z _ _)) rfl rfl (Nat.le_of_ble_eq_true rfl) (by decide) (by decide) (fun v55 M55 q55 => ?_)
  obtain ⟨rfl, y55⟩ := q55
  refine wp_putR (pc := 58) dX8_init_58 fl_X8_38 (fun _ => ⟨rfl, _, rfl, rfl⟩) rfl (by omega) ?_
  have z := z.obj (kf := 5) (m := 6) (by omega) y55.w0 rfl
  refine zp_hide z (fun N58 z => ?_)
  refine wp_aload_n (pc := 61) dX8_init_61 rfl ?_
  refine wp_new (pc := 62) (ci := 0) dX8_init_62 rfl kl_X8_41 ki_X0 kj_X0 rfl (by decide) ?_
  refine wp_dup (pc := 65) dX8_init_65 rfl ?_
  refine wp_callI (pc := 66) dX8_init_66 cl_X8_43 (con_X0 (wZ_z _ _)) rfl rfl (Nat.le_of_ble_eq_true rfl) (by decide) (by decide) (fun v66 M66 q66 => ?_)
  obtain ⟨rfl, y66⟩ := q66
  refine wp_putR (pc := 69) dX8_init_69 fl_X8_44 (fun _ => ⟨rfl, _, rfl, rfl⟩) rfl (by omega) ?_
  have z := z.obj (kf := 6) (m := 86) (by omega) y66.w0 rfl
  refine zp_hide z (fun N69 z => ?_)
  refine wp_aload_n (pc := 72) dX8_init_72 rfl ?_
  refine wp_new (pc := 73) (ci := 5) dX8_init_73 rfl kl_X8_48 ki_X6 kj_X6 rfl (by decide) ?_
  refine wp_dup (pc := 76) dX8_init_76 rfl ?_
  refine wp_callI (pc := 77) dX8_init_77 cl_X8_50 (con_X6 (wZ_z _ _)) rfl rfl (Nat.le_of_ble_eq_true rfl) (by decide) (by decide) (fun v77 M77 q77 => ?_)
  obtain ⟨rfl, y77⟩ := q77
  refine wp_putR (pc := 80) dX8_init_80 fl_X8_51 (fun _ => ⟨rfl, _, rfl, rfl⟩) rfl (by omega) ?_
  have z := z.obj (kf := 7) (m := 14) (by omega) y77.w0 rfl
  refine zp_hide z (fun N80 z => ?_)
  refine wp_aload_n (pc := 83) dX8_init_83 rfl ?_
  refine wp_new (pc := 84) (ci := 1) dX8_init_84 rfl kl_X8_55 ki_X1 kj_X1 rfl (by decide) ?_
  refine wp_dup (pc := 87) dX8_init_87 rfl ?_
  refine wp_callIN (pc := 88) dX8_init_88 cl_X8_57 (con_X1 (wZ_z _ _)) rfl rfl (Nat.le_of_ble_eq_true rfl) (by decide) (by decide) (fun v88 M88 q88 => ?_)
  obtain ⟨rfl, y88⟩ := q88
  refine wp_putR (pc := 91) dX8_init_91 fl_X8_58 (fun _ => ⟨rfl, _, rfl, rfl⟩) rfl (by omega) ?_
  have z := z.obj (kf := 8) (m := 13) (by omega) y88.w0 rfl
  refine zp_hide z (fun N91 z => ?_)
  refine wp_aload_n (pc := 94) dX8_init_94 rfl ?_
  refine wp_new (pc := 95) (ci := 4) dX8_init_95 rfl kl_X8_62 ki_X5 kj_X5 rfl (by decide) ?_
  refine wp_dup (pc := 98) dX8_init_98 rfl ?_
  refine wp_callIN (pc := 99) dX8_init_99 cl_X8_64 (con_X5 (wZ_z _ _)) rfl rfl (Nat.le_of_ble_eq_true rfl) (by decide) (by decide) (fun v99 M99 q99 => ?_)
  obtain ⟨rfl, y99⟩ := q99
  refine wp_putR (pc := 102) dX8_init_102 fl_X8_65 (fun _ => ⟨rfl, _, rfl, rfl⟩) rfl (by omega) ?_
  have z := z.obj (kf := 9) (m := 6) (by omega) y99.w0 rfl
  refine zp_hide z (fun N102 z => ?_)
  refine wp_aload_n (pc := 105) dX8_init_105 rfl ?_
  refine wp_lconst (pc := 106) dX8_init_106 rfl ?_
  refine wp_putJ (pc := 107) dX8_init_107 fl_X8_69 (fun h => by cases h) rfl (by omega) ?_
  have z := z.lng (k := 10)
  refine zp_hide z (fun N107 z => ?_)
  exact wp_vret (pc := 110) dX8_init_110 rfl ⟨rfl, z.fin (fun j c hc => by have h := ir_lo_X8 j c hc; rcases h with h | h | h | h | h | h | h | h | h <;> simp [h]) (Or.inr (fun j => by unfold iv; rw [if_neg (by rintro (q | q); exact absurd q.1 (by decide); exact absurd q.1 (by decide))]))⟩
theorem con_X9 {l : Launch} {K : CtxT} {M : Mm}  (hz : ∀ j, M.1 (150) j = 0 ∧ M.2.1 (150) j = 0) : Ct l K 1 mX9_init [.ref (K.1 + 150)] (151) M 17 609 (fun v M' => v = none ∧ Zo (150) (168) M M') := by
  refine ct_of (L := [some (.ref (K.1 + 150))]) (by decide +kernel) (Nat.le_of_ble_eq_true rfl) rfl rfl (fun E hE => ?_)
  have z := Zp.start hz
  refine wp_aload_n (pc := 0) dX9_init_0 rfl ?_
  refine wp_objInit (pc := 1) dX9_init_1 oi_X9_1 (by decide) (by decide) ?_
  refine wp_aload_n (pc := 4) dX9_init_4 rfl ?_
  refine wp_bipush (pc := 5) (x := nI 60) dX9_init_5 bp_60 ?_
  refine wp_newI (pc := 7) (N := 60) dX9_init_7 (nI_pos (by decide)) (nI_clamp (by decide)) (by decide) rfl (by decide) ka_int ?_
  refine wp_putR (pc := 9) dX9_init_9 fl_X9_7 (fun _ => ⟨rfl, _, rfl, rfl⟩) rfl (by omega) ?_
  have z := z.arr (kf := 1) (by omega) ⟨_, Or.inl rfl⟩ rfl
  refine zp_hide z (fun N9 z => ?_)
  refine wp_aload_n (pc := 12) dX9_init_12 rfl ?_
  refine wp_bipush (pc := 13) (x := nI 12) dX9_init_13 bp_12 ?_
  refine wp_putI (pc := 15) dX9_init_15 fl_X9_13 (fun h => by cases h) rfl (by omega) ?_
  have z := z.lea (k := 6) rfl (fun j hj => by unfold iv; rw [if_neg (by rintro (q | q); exact absurd q.1 (by decide); exact hj q.2)])
  refine zp_hide z (fun N15 z => ?_)
  refine wp_aload_n (pc := 18) dX9_init_18 rfl ?_
  refine wp_ic (pc := 19) (x := nI 4) dX9_init_19 ic_4 ?_
  refine wp_newI (pc := 20) (N := 4) dX9_init_20 (nI_pos (by decide)) (nI_clamp (by decide)) (by decide) rfl (by decide) ka_int ?_
  refine wp_putR (pc := 22) dX9_init_22 fl_X9_17 (fun _ => ⟨rfl, _, rfl, rfl⟩) rfl (by omega) ?_
  have z := z.arr (kf := 7) (by omega) ⟨_, Or.inl rfl⟩ rfl
  refine zp_hide z (fun N22 z => ?_)
  refine wp_aload_n (pc := 25) dX9_init_25 rfl ?_
  refine wp_bipush (pc := 26) (x := nI 16) dX9_init_26 bp_16 ?_
  refine wp_newI (pc := 28) (N := 16) dX9_init_28 (nI_pos (by decide)) (nI_clamp (by decide)) (by decide) rfl (by decide) ka_int ?_
  refine wp_putR (pc := 30) dX9_init_30 fl_X9_20 (fun _ => ⟨rfl, _, rfl, rfl⟩) rfl (by omega) ?_
  have z := z.arr (kf := 8) (by omega) ⟨_, Or.inl rfl⟩ rfl
  refine zp_hide z (fun N30 z => ?_)
  refine wp_aload_n (pc := 33) dX9_init_33 rfl ?_
  refine wp_bipush (pc := 34) (x := nI 15) dX9_init_34 bp_15 ?_
  refine wp_newI (pc := 36) (N := 15) dX9_init_36 (nI_pos (by decide)) (nI_clamp (by decide)) (by decide) rfl (by decide) ka_int ?_
  refine wp_putR (pc := 38) dX9_init_38 fl_X9_23 (fun _ => ⟨rfl, _, rfl, rfl⟩) rfl (by omega) ?_
  have z := z.arr (kf := 9) (by omega) ⟨_, Or.inl rfl⟩ rfl
  refine zp_hide z (fun N38 z => ?_)
  refine wp_aload_n (pc := 41) dX9_init_41 rfl ?_
  refine wp_ic (pc := 42) (x := nI 4) dX9_init_42 ic_4 ?_
  refine wp_newI (pc := 43) (N := 4) dX9_init_43 (nI_pos (by decide)) (nI_clamp (by decide)) (by decide) rfl (by decide) ka_int ?_
  refine wp_putR (pc := 45) dX9_init_45 fl_X9_26 (fun _ => ⟨rfl, _, rfl, rfl⟩) rfl (by omega) ?_
  have z := z.arr (kf := 13) (by omega) ⟨_, Or.inl rfl⟩ rfl
  refine zp_hide z (fun N45 z => ?_)
  refine wp_aload_n (pc := 48) dX9_init_48 rfl ?_
  refine wp_bipush (pc := 49) (x := nI 16) dX9_init_49 bp_16 ?_
  refine wp_newI (pc := 51) (N := 16) dX9_init_51 (nI_pos (by decide)) (nI_clamp (by decide)) (by decide) rfl (by decide) ka_int ?_
  refine wp_putR (pc := 53) dX9_init_53 fl_X9_29 (fun _ => ⟨rfl, _, rfl, rfl⟩) rfl (by omega) ?_
  have z := z.arr (kf := 14) (by omega) ⟨_, Or.inl rfl⟩ rfl
  refine zp_hide z (fun N53 z => ?_)
  refine wp_aload_n (pc := 56) dX9_init_56 rfl ?_
  refine wp_bipush (pc := 57) (x := nI 15) dX9_init_57 bp_15 ?_
  refine wp_newI (pc := 59) (N := 15) dX9_init_59 (nI_pos (by decide)) (nI_clamp (by decide)) (by decide) rfl (by decide) ka_int ?_
  refine wp_putR (pc := 61) dX9_init_61 fl_X9_32 (fun _ => ⟨rfl, _, rfl, rfl⟩) rfl (by omega) ?_
  have z := z.arr (kf := 15) (by omega) ⟨_, Or.inl rfl⟩ rfl
  refine zp_hide z (fun N61 z => ?_)
  refine wp_aload_n (pc := 64) dX9_init_64 rfl ?_
  refine wp_bipush (pc := 65) (x := nI 25) dX9_init_65 bp_25 ?_
  refine wp_newI (pc := 67) (N := 25) dX9_init_67 (nI_pos (by decide)) (nI_clamp (by decide)) (by decide) rfl (by decide) ka_int ?_
  refine wp_putR (pc := 69) dX9_init_69 fl_X9_35 (fun _ => ⟨rfl, _, rfl, rfl⟩) rfl (by omega) ?_
  have z := z.arr (kf := 16) (by omega) ⟨_, Or.inl rfl⟩ rfl
  refine zp_hide z (fun N69 z => ?_)
  refine wp_aload_n (pc := 72) dX9_init_72 rfl ?_
  refine wp_bipush (pc := 73) (x := nI 25) dX9_init_73 bp_25 ?_
  refine wp_newI (pc := 75) (N := 25) dX9_init_75 (nI_pos (by decide)) (nI_clamp (by decide)) (by decide) rfl (by decide) ka_int ?_
  refine wp_putR (pc := 77) dX9_init_77 fl_X9_38 (fun _ => ⟨rfl, _, rfl, rfl⟩) rfl (by omega) ?_
  have z := z.arr (kf := 17) (by omega) ⟨_, Or.inl rfl⟩ rfl
  refine zp_hide z (fun N77 z => ?_)
  refine wp_aload_n (pc := 80) dX9_init_80 rfl ?_
  refine wp_sipush (pc := 81) (x := nI 350) dX9_init_81 sp_350 ?_
  refine wp_newI (pc := 84) (N := 350) dX9_init_84 (nI_pos (by decide)) (nI_clamp (by decide)) (by decide) rfl (by decide) ka_int ?_
  refine wp_putR (pc := 86) dX9_init_86 fl_X9_41 (fun _ => ⟨rfl, _, rfl, rfl⟩) rfl (by omega) ?_
  have z := z.arr (kf := 18) (by omega) ⟨_, Or.inl rfl⟩ rfl
  refine zp_hide z (fun N86 z => ?_)
  refine wp_aload_n (pc := 89) dX9_init_89 rfl ?_
  refine wp_bipush (pc := 90) (x := nI 50) dX9_init_90 bp_50 ?_
  refine wp_newI (pc := 92) (N := 50) dX9_init_92 (nI_pos (by decide)) (nI_clamp (by decide)) (by decide) rfl (by decide) ka_int ?_
  refine wp_putR (pc := 94) dX9_init_94 fl_X9_44 (fun _ => ⟨rfl, _, rfl, rfl⟩) rfl (by omega) ?_
  have z := z.arr (kf := 20) (by omega) ⟨_, Or.inl rfl⟩ rfl
  refine zp_hide z (fun N94 z => ?_)
  refine wp_aload_n (pc := 97) dX9_init_97 rfl ?_
  refine wp_ic (pc := 98) (x := nI 2) dX9_init_98 ic_2 ?_
  refine wp_newZ (pc := 99) (N := 2) dX9_init_99 (nI_pos (by decide)) (nI_clamp (by decide)) (by decide) rfl (by decide) ka_boolean ?_
  refine wp_putR (pc := 101) dX9_init_101 fl_X9_47 (fun _ => ⟨rfl, _, rfl, rfl⟩) rfl (by omega) ?_
  have z := z.arr (kf := 21) (by omega) ⟨_, Or.inr rfl⟩ rfl
  refine zp_hide z (fun N101 z => ?_)
  refine wp_aload_n (pc := 104) dX9_init_104 rfl ?_
  refine wp_bipush (pc := 105) (x := nI 6) dX9_init_105 bp_6 ?_
  refine wp_newI (pc := 107) (N := 6) dX9_init_107 (nI_pos (by decide)) (nI_clamp (by decide)) (by decide) rfl (by decide) ka_int ?_
  refine wp_putR (pc := 109) dX9_init_109 fl_X9_51 (fun _ => ⟨rfl, _, rfl, rfl⟩) rfl (by omega) ?_
  have z := z.arr (kf := 23) (by omega) ⟨_, Or.inl rfl⟩ rfl
  refine zp_hide z (fun N109 z => ?_)
  refine wp_aload_n (pc := 112) dX9_init_112 rfl ?_
  refine wp_bipush (pc := 113) (x := nI 6) dX9_init_113 bp_6 ?_
  refine wp_newI (pc := 115) (N := 6) dX9_init_115 (nI_pos (by decide)) (nI_clamp (by decide)) (by decide) rfl (by decide) ka_int ?_
  refine wp_putR (pc := 117) dX9_init_117 fl_X9_54 (fun _ => ⟨rfl, _, rfl, rfl⟩) rfl (by omega) ?_
  have z := z.arr (kf := 24) (by omega) ⟨_, Or.inl rfl⟩ rfl
  refine zp_hide z (fun N117 z => ?_)
  refine wp_aload_n (pc := 120) dX9_init_120 rfl ?_
  refine wp_bipush (pc := 121) (x := nI 6) dX9_init_121 bp_6 ?_
  refine wp_newI (pc := 123) (N := 6) dX9_init_123 (nI_pos (by decide)) (nI_clamp (by decide)) (by decide) rfl (by decide) ka_int ?_
  refine wp_putR (pc := 125) dX9_init_125 fl_X9_57 (fun _ => ⟨rfl, _, rfl, rfl⟩) rfl (by omega) ?_
  have z := z.arr (kf := 25) (by omega) ⟨_, Or.inl rfl⟩ rfl
  refine zp_hide z (fun N125 z => ?_)
  refine wp_aload_n (pc := 128) dX9_init_128 rfl ?_
  refine wp_ic (pc := 129) (x := nI 4) dX9_init_129 ic_4 ?_
  refine wp_newI (pc := 130) (N := 4) dX9_init_130 (nI_pos (by decide)) (nI_clamp (by decide)) (by decide) rfl (by decide) ka_int ?_
  refine wp_putR (pc := 132) dX9_init_132 fl_X9_60 (fun _ => ⟨rfl, _, rfl, rfl⟩) rfl (by omega) ?_
  have z := z.arr (kf := 27) (by omega) ⟨_, Or.inl rfl⟩ rfl
  refine zp_hide z (fun N132 z => ?_)
  refine wp_aload_n (pc := 135) dX9_init_135 rfl ?_
  refine wp_ic (pc := 136) (x := nI 5) dX9_init_136 ic_5 ?_
  refine wp_newI (pc := 137) (N := 5) dX9_init_137 (nI_pos (by decide)) (nI_clamp (by decide)) (by decide) rfl (by decide) ka_int ?_
  refine wp_putR (pc := 139) dX9_init_139 fl_X9_63 (fun _ => ⟨rfl, _, rfl, rfl⟩) rfl (by omega) ?_
  have z := z.arr (kf := 28) (by omega) ⟨_, Or.inl rfl⟩ rfl
  refine zp_hide z (fun N139 z => ?_)
  exact wp_vret (pc := 142) dX9_init_142 rfl ⟨rfl, z.fin (fun j c hc => by have h := ir_lo_X9 j c hc; rcases h with h | h | h | h | h | h | h | h | h | h | h | h | h | h | h | h | h <;> simp [h]) (Or.inl rfl)⟩
