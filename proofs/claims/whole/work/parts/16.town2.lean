/-! what men a dog keeps, as a set -/
def kepN (P : Pg) (d : Nat) : Nat → Nat
  | 0 => 0
  | m + 1 => if P (8 + m) = nI d then kepN P d m ||| 2 ^ m else kepN P d m
def impN (P : Pg) : Nat → Nat
  | 0 => 0
  | m + 1 => if 0 < P (19 + m) then impN P m ||| 2 ^ m else impN P m
theorem or_bit {a m : Nat} (hm : m < 5) : nI a ||| bit m = nI (a ||| 2 ^ m) := by
  have e : ∀ m, m < 5 → nI 1 <<< (nI m &&& 31) = nI (2 ^ m) := by decide +kernel
  rw [show bit m = nI (2 ^ m) from e m hm]
  apply Int32.toBitVec_inj.1
  show BitVec.ofNat 32 a ||| BitVec.ofNat 32 (2 ^ m) = BitVec.ofNat 32 (a ||| 2 ^ m)
  apply BitVec.eq_of_getLsbD_eq
  intro i hi
  simp [hi]
theorem or_lt {a m n : Nat} (ha : a < 2 ^ m) (h : m < n) : a ||| 2 ^ m < 2 ^ (m + 1) := Nat.or_lt_two_pow (Nat.lt_of_lt_of_le ha (Nat.pow_le_pow_right (by decide) (by omega))) (Nat.pow_lt_pow_right (by decide) (by omega))
theorem kepN_lt (P : Pg) (d : Nat) : ∀ m, kepN P d m < 2 ^ m
  | 0 => by simp [kepN]
  | m + 1 => by
    have h := kepN_lt P d m
    unfold kepN
    split
    · exact or_lt h (Nat.lt_succ_self _)
    · exact Nat.lt_of_lt_of_le h (Nat.pow_le_pow_right (by decide) (by omega))
theorem impN_lt (P : Pg) : ∀ m, impN P m < 2 ^ m
  | 0 => by simp [impN]
  | m + 1 => by
    have h := impN_lt P m
    unfold impN
    split
    · exact or_lt h (Nat.lt_succ_self _)
    · exact Nat.lt_of_lt_of_le h (Nat.pow_le_pow_right (by decide) (by omega))
theorem lt32 {a n : Nat} (h : a < 2 ^ n) (hn : n ≤ 5) : a < 32 := Nat.lt_of_lt_of_le h (Nat.pow_le_pow_right (by decide) hn)
def sumB (P : Pg) : Nat → Int32
  | 0 => nI 0
  | d + 1 => sumB P d + P (4 + d)
theorem c_keptBy {l : Launch} {K : CtxT} {M : Mm} {t w : Nat} {Λ : Lw} {P : Pg} (hT : IT t) (hW : IL w) (hR : RS M) (hL : OkN Λ) (hx : XL M w Λ) (ht : XT M t Λ P) {d : Nat} (hd : d < 2 ^ 31) : Ci l K 1 mX7_keptBy [.ref (K.1 + t), .ref (K.1 + w), .int (nI d)] M (fun r M' => r = nI (kepN P d (lM Λ)) ∧ M' = M) := by
  have hN := hL.2.1
  refine ci_of (L := [some (.ref (K.1 + t)), some (.ref (K.1 + w)), some (.int (nI d)), none, none]) (by decide +kernel) (Nat.le_of_ble_eq_true rfl) rfl rfl (fun E => ?_)
  have loop : ∀ (n m : Nat), n = lM Λ - m → m ≤ lM Λ → Wp E K mX7_keptBy 1 (0, 0) 5 [some (.ref (K.1 + t)), some (.ref (K.1 + w)), some (.int (nI d)), some (.int (nI (kepN P d m))), some (.int (nI m))] [] 168 M 0 0 (zI E K (fun r M' => r = nI (kepN P d (lM Λ)) ∧ M' = M)) := by
    intro n
    induction n with
    | zero =>
      intro m hn hm
      refine wp_iload (pc := 5) dX7_keptBy_5 rfl ?_
      refine wp_aload_n (pc := 7) dX7_keptBy_7 rfl ?_
      refine wf_getI (pc := 8) dX7_keptBy_8 fl_X7_40 hW.1 ?_
      rw [hx.2.1]
      refine wp_icmp_ge (pc := 11) 38 dX7_keptBy_11 (by decide) (fun h11 => ?_) (fun h11 => ?_)
      · have e : m = lM Λ := by omega
        subst e
        refine wp_iload_n (pc := 38) dX7_keptBy_38 rfl ?_
        refine wf_iret (pc := 39) dX7_keptBy_39 rfl ?_
        exact ⟨rfl, rfl⟩
      · exact absurd (nI_le (by omega) (by omega)) h11
    | succ n ih =>
      intro m hn hm
      refine wp_iload (pc := 5) dX7_keptBy_5 rfl ?_
      refine wp_aload_n (pc := 7) dX7_keptBy_7 rfl ?_
      refine wf_getI (pc := 8) dX7_keptBy_8 fl_X7_40 hW.1 ?_
      rw [hx.2.1]
      refine wp_icmp_ge (pc := 11) 38 dX7_keptBy_11 (by decide) (fun h11 => ?_) (fun h11 => ?_)
      · exact absurd h11 (nI_ge (by omega) (by omega))
      · refine wp_aload_n (pc := 14) dX7_keptBy_14 rfl ?_
        refine wf_getR (pc := 15) dX7_keptBy_15 fl_X7_25 hT.1 (hR _ _ _ (rt_T4 hT)) ?_
        refine wp_iload (pc := 18) dX7_keptBy_18 rfl ?_
        refine wf_iald (pc := 20) (j := m) dX7_keptBy_20 hT.2.2.2.1 rfl (by omega) ?_
        refine wp_iload_n (pc := 21) dX7_keptBy_21 rfl ?_
        rw [(ht.2.2.2 m (by omega)).1]
        refine wp_icmp_ne (pc := 22) 32 dX7_keptBy_22 (by decide) (fun h22 => ?_) (fun h22 => ?_)
        · have e2 : kepN P d (m + 1) = kepN P d m := by simp [kepN, h22]
          refine wp_iinc1 (pc := 32) (L' := [_, _, _, _, _]) dX7_keptBy_32 rfl rfl rfl ?_
          refine wp_goto (pc := 35) 5 dX7_keptBy_35 (by decide) ?_
          first | exact ih (m + 1) (by omega) (by omega) | (rw [← e2]; exact ih (m + 1) (by omega) (by omega))
        · have e2 : kepN P d (m + 1) = kepN P d m ||| 2 ^ m := by simp [kepN, h22]
          refine wp_iload_n (pc := 25) dX7_keptBy_25 rfl ?_
          refine wp_ic (pc := 26) (x := nI 1) dX7_keptBy_26 ic_1 ?_
          refine wp_iload (pc := 27) dX7_keptBy_27 rfl ?_
          refine wp_ishl (pc := 29) dX7_keptBy_29 ?_
          refine wp_ior (pc := 30) dX7_keptBy_30 ?_
          refine wp_top (nI (kepN P d m ||| 2 ^ m)) (or_bit (by omega)) ?_
          rw [← e2]
          refine wp_istore_n (pc := 31) (L' := [_, _, _, _, _]) dX7_keptBy_31 (Nat.le_of_ble_eq_true rfl) rfl rfl ?_
          refine wp_iinc1 (pc := 32) (L' := [_, _, _, _, _]) dX7_keptBy_32 rfl rfl rfl ?_
          refine wp_goto (pc := 35) 5 dX7_keptBy_35 (by decide) ?_
          first | exact ih (m + 1) (by omega) (by omega) | (rw [← e2]; exact ih (m + 1) (by omega) (by omega))
  refine wp_ic (pc := 0) (x := nI 0) dX7_keptBy_0 ic_0 ?_
  refine wp_istore_n (pc := 1) (L' := [_, _, _, _, _]) dX7_keptBy_1 (Nat.le_of_ble_eq_true rfl) rfl rfl ?_
  refine wp_ic (pc := 2) (x := nI 0) dX7_keptBy_2 ic_0 ?_
  refine wp_istore (pc := 3) (L' := [_, _, _, _, _]) dX7_keptBy_3 (Nat.le_of_ble_eq_true rfl) rfl rfl ?_
  exact loop (lM Λ) 0 (by omega) (by omega)
theorem wC_at {M : Mm} {a0 a n j : Nat} (h : j < n) : (wC M a0 0 a 0 n).1 a j = M.1 a0 j := by simp [wC, h]
theorem wC_na {M : Mm} {a0 a sp dp n b j : Nat} (h : b ≠ a) : (wC M a0 sp a dp n).1 b j = M.1 b j := by simp [wC, h]
/-- the town t is a copy of what the town t2 was -/
def Cp (t t2 : Nat) (M M' : Mm) : Prop := (∀ k, k < 2 → M'.1 t k = M.1 t2 k) ∧ (∀ k, k < 4 → M'.1 (t + 1) k = M.1 (t2 + 1) k ∧ M'.1 (t + 2) k = M.1 (t2 + 2) k) ∧ ∀ k, k < 5 → M'.1 (t + 3) k = M.1 (t2 + 3) k ∧ M'.1 (t + 4) k = M.1 (t2 + 4) k ∧ M'.1 (t + 5) k = M.1 (t2 + 5) k
theorem Cp.XT {t t2 : Nat} {M M' : Mm} {Λ : Lw} {P : Pg} (h : Cp t t2 M M') (hL : lD Λ ≤ 4 ∧ lM Λ ≤ 5) (hx : XT M t2 Λ P) : XT M' t Λ P := by
  obtain ⟨h1, h2, h3⟩ := h
  obtain ⟨g1, g2, g3, g4⟩ := hx
  refine ⟨(h1 0 (by omega)).trans g1, (h1 1 (by omega)).trans g2, fun d hd => ?_, fun m hm => ?_⟩
  · rw [(h2 d (by omega)).1, (h2 d (by omega)).2]; exact g3 d hd
  · rw [(h3 m (by omega)).1, (h3 m (by omega)).2.1, (h3 m (by omega)).2.2]; exact g4 m hm
theorem c_hasRoom {l : Launch} {K : CtxT} {M : Mm} {t w : Nat} {Λ : Lw} {P : Pg} (hT : IT t) (hW : IL w) (hR : RS M) (hL : OkN Λ) (hx : XL M w Λ) (ht : XT M t Λ P) {d : Nat} (hd : d < lD Λ) : Ci l K 2 mX7_hasRoom [.ref (K.1 + t), .ref (K.1 + w), .int (nI d)] M (fun r M' => r = b2i (decide (nI (pop5 (kepN P d (lM Λ))) < lRm Λ d)) ∧ M' = M) := by
  have hD := hL.1
  refine ci_of (L := [some (.ref (K.1 + t)), some (.ref (K.1 + w)), some (.int (nI d))]) (by decide +kernel) (Nat.le_of_ble_eq_true rfl) rfl rfl (fun E => ?_)
  refine wp_aload_n (pc := 0) dX7_hasRoom_0 rfl ?_
  refine wp_aload_n (pc := 1) dX7_hasRoom_1 rfl ?_
  refine wp_iload_n (pc := 2) dX7_hasRoom_2 rfl ?_
  refine wf_callVi (pc := 3) dX7_hasRoom_3 cl_X7_49 (c_keptBy hT hW hR hL hx ht (by omega)) hT.1 rfl rfl rfl rfl (Nat.le_of_ble_eq_true rfl) (by decide) ⟨Nat.le_refl _, Nat.le_refl _⟩ (fun r3 M3 q3 => ?_)
  rw [q3.1, q3.2]
  refine wf_callSi (pc := 6) dX7_hasRoom_6 cl_X7_53 (c_bitCount (lt32 (kepN_lt P _ _) hL.2.1)) rfl rfl (Nat.le_of_ble_eq_true rfl) (by decide) ⟨Nat.le_refl _, Nat.le_refl _⟩ (fun r6 M6 q6 => ?_)
  rw [q6.1, q6.2]
  refine wp_aload_n (pc := 9) dX7_hasRoom_9 rfl ?_
  refine wf_getR (pc := 10) dX7_hasRoom_10 fl_X7_59 hW.1 (hR _ _ _ (rt_L6 hW)) ?_
  refine wp_iload_n (pc := 13) dX7_hasRoom_13 rfl ?_
  refine wf_iald (pc := 14) (j := d) dX7_hasRoom_14 hW.2.2.2.1 rfl (by omega) ?_
  rw [(hx.2.2.2.2.2 d hd).2.1]
  refine wp_icmp_ge (pc := 15) 22 dX7_hasRoom_15 (by decide) (fun h15 => ?_) (fun h15 => ?_)
  · have e : ¬ nI (pop5 (kepN P d (lM Λ))) < lRm Λ d := Int32.not_lt.mpr h15
    refine wp_ic (pc := 22) (x := nI 0) dX7_hasRoom_22 ic_0 ?_
    refine wf_zret (pc := 23) (false) dX7_hasRoom_23 rfl rfl ?_
    exact ⟨by simp [e, b2i], rfl⟩
  · have e : nI (pop5 (kepN P d (lM Λ))) < lRm Λ d := Int32.not_le.mp h15
    refine wp_ic (pc := 18) (x := nI 1) dX7_hasRoom_18 ic_1 ?_
    refine wp_goto (pc := 19) 23 dX7_hasRoom_19 (by decide) ?_
    refine wf_zret (pc := 23) (true) dX7_hasRoom_23 rfl rfl ?_
    exact ⟨by simp [e, b2i], rfl⟩
theorem c_impounded {l : Launch} {K : CtxT} {M : Mm} {t w : Nat} {Λ : Lw} {P : Pg} (hT : IT t) (hW : IL w) (hR : RS M) (hL : OkN Λ) (hx : XL M w Λ) (ht : XT M t Λ P) : Ci l K 1 mX7_impounded [.ref (K.1 + t), .ref (K.1 + w)] M (fun r M' => r = nI (impN P (lM Λ)) ∧ M' = M) := by
  have hN := hL.2.1
  refine ci_of (L := [some (.ref (K.1 + t)), some (.ref (K.1 + w)), none, none]) (by decide +kernel) (Nat.le_of_ble_eq_true rfl) rfl rfl (fun E => ?_)
  have loop : ∀ (n m : Nat), n = lM Λ - m → m ≤ lM Λ → Wp E K mX7_impounded 1 (0, 0) 4 [some (.ref (K.1 + t)), some (.ref (K.1 + w)), some (.int (nI (impN P m))), some (.int (nI m))] [] 168 M 0 0 (zI E K (fun r M' => r = nI (impN P (lM Λ)) ∧ M' = M)) := by
    intro n
    induction n with
    | zero =>
      intro m hn hm
      refine wp_iload_n (pc := 4) dX7_impounded_4 rfl ?_
      refine wp_aload_n (pc := 5) dX7_impounded_5 rfl ?_
      refine wf_getI (pc := 6) dX7_impounded_6 fl_X7_40 hW.1 ?_
      rw [hx.2.1]
      refine wp_icmp_ge (pc := 9) 32 dX7_impounded_9 (by decide) (fun h9 => ?_) (fun h9 => ?_)
      · have e : m = lM Λ := by omega
        subst e
        refine wp_iload_n (pc := 32) dX7_impounded_32 rfl ?_
        refine wf_iret (pc := 33) dX7_impounded_33 rfl ?_
        exact ⟨rfl, rfl⟩
      · exact absurd (nI_le (by omega) (by omega)) h9
    | succ n ih =>
      intro m hn hm
      refine wp_iload_n (pc := 4) dX7_impounded_4 rfl ?_
      refine wp_aload_n (pc := 5) dX7_impounded_5 rfl ?_
      refine wf_getI (pc := 6) dX7_impounded_6 fl_X7_40 hW.1 ?_
      rw [hx.2.1]
      refine wp_icmp_ge (pc := 9) 32 dX7_impounded_9 (by decide) (fun h9 => ?_) (fun h9 => ?_)
      · exact absurd h9 (nI_ge (by omega) (by omega))
      · refine wp_aload_n (pc := 12) dX7_impounded_12 rfl ?_
        refine wp_iload_n (pc := 13) dX7_impounded_13 rfl ?_
        refine wf_callVi (pc := 14) dX7_impounded_14 cl_X7_45 (c_isImpounded hT hR ht (by omega) (by omega)) hT.1 rfl rfl rfl rfl (Nat.le_of_ble_eq_true rfl) (by decide) ⟨Nat.le_refl _, Nat.le_refl _⟩ (fun r14 M14 q14 => ?_)
        rw [q14.1, q14.2]
        refine wp_if_eq (pc := 17) 26 dX7_impounded_17 (by decide) (fun h17 => ?_) (fun h17 => ?_)
        · have h17 := b2i_0 h17
          have h17 := of_decide_eq_false h17
          have e2 : impN P (m + 1) = impN P m := by simp [impN, h17]
          refine wp_iinc1 (pc := 26) (L' := [_, _, _, _]) dX7_impounded_26 rfl rfl rfl ?_
          refine wp_goto (pc := 29) 4 dX7_impounded_29 (by decide) ?_
          first | exact ih (m + 1) (by omega) (by omega) | (rw [← e2]; exact ih (m + 1) (by omega) (by omega))
        · have h17 := b2i_1 h17
          have h17 := of_decide_eq_true h17
          have e2 : impN P (m + 1) = impN P m ||| 2 ^ m := by simp [impN, h17]
          refine wp_iload_n (pc := 20) dX7_impounded_20 rfl ?_
          refine wp_ic (pc := 21) (x := nI 1) dX7_impounded_21 ic_1 ?_
          refine wp_iload_n (pc := 22) dX7_impounded_22 rfl ?_
          refine wp_ishl (pc := 23) dX7_impounded_23 ?_
          refine wp_ior (pc := 24) dX7_impounded_24 ?_
          refine wp_top (nI (impN P m ||| 2 ^ m)) (or_bit (by omega)) ?_
          rw [← e2]
          refine wp_istore_n (pc := 25) (L' := [_, _, _, _]) dX7_impounded_25 (Nat.le_of_ble_eq_true rfl) rfl rfl ?_
          refine wp_iinc1 (pc := 26) (L' := [_, _, _, _]) dX7_impounded_26 rfl rfl rfl ?_
          refine wp_goto (pc := 29) 4 dX7_impounded_29 (by decide) ?_
          first | exact ih (m + 1) (by omega) (by omega) | (rw [← e2]; exact ih (m + 1) (by omega) (by omega))
  refine wp_ic (pc := 0) (x := nI 0) dX7_impounded_0 ic_0 ?_
  refine wp_istore_n (pc := 1) (L' := [_, _, _, _]) dX7_impounded_1 (Nat.le_of_ble_eq_true rfl) rfl rfl ?_
  refine wp_ic (pc := 2) (x := nI 0) dX7_impounded_2 ic_0 ?_
  refine wp_istore_n (pc := 3) (L' := [_, _, _, _]) dX7_impounded_3 (Nat.le_of_ble_eq_true rfl) rfl rfl ?_
  exact loop (lM Λ) 0 (by omega) (by omega)
theorem c_allBones {l : Launch} {K : CtxT} {M : Mm} {t w : Nat} {Λ : Lw} {P : Pg} (hT : IT t) (hW : IL w) (hR : RS M) (hL : OkN Λ) (hx : XL M w Λ) (ht : XT M t Λ P) : Ci l K 1 mX7_allBones [.ref (K.1 + t), .ref (K.1 + w)] M (fun r M' => r = sumB P (lD Λ) ∧ M' = M) := by
  have hD := hL.1
  refine ci_of (L := [some (.ref (K.1 + t)), some (.ref (K.1 + w)), none, none]) (by decide +kernel) (Nat.le_of_ble_eq_true rfl) rfl rfl (fun E => ?_)
  have loop : ∀ (n m : Nat), n = lD Λ - m → m ≤ lD Λ → Wp E K mX7_allBones 1 (0, 0) 4 [some (.ref (K.1 + t)), some (.ref (K.1 + w)), some (.int (sumB P m)), some (.int (nI m))] [] 168 M 0 0 (zI E K (fun r M' => r = sumB P (lD Λ) ∧ M' = M)) := by
    intro n
    induction n with
    | zero =>
      intro m hn hm
      refine wp_iload_n (pc := 4) dX7_allBones_4 rfl ?_
      refine wp_aload_n (pc := 5) dX7_allBones_5 rfl ?_
      refine wf_getI (pc := 6) dX7_allBones_6 fl_X7_62 hW.1 ?_
      rw [hx.1]
      refine wp_icmp_ge (pc := 9) 27 dX7_allBones_9 (by decide) (fun h9 => ?_) (fun h9 => ?_)
      · have e : m = lD Λ := by omega
        subst e
        refine wp_iload_n (pc := 27) dX7_allBones_27 rfl ?_
        refine wf_iret (pc := 28) dX7_allBones_28 rfl ?_
        exact ⟨rfl, rfl⟩
      · exact absurd (nI_le (by omega) (by omega)) h9
    | succ n ih =>
      intro m hn hm
      refine wp_iload_n (pc := 4) dX7_allBones_4 rfl ?_
      refine wp_aload_n (pc := 5) dX7_allBones_5 rfl ?_
      refine wf_getI (pc := 6) dX7_allBones_6 fl_X7_62 hW.1 ?_
      rw [hx.1]
      refine wp_icmp_ge (pc := 9) 27 dX7_allBones_9 (by decide) (fun h9 => ?_) (fun h9 => ?_)
      · exact absurd h9 (nI_ge (by omega) (by omega))
      · refine wp_iload_n (pc := 12) dX7_allBones_12 rfl ?_
        refine wp_aload_n (pc := 13) dX7_allBones_13 rfl ?_
        refine wf_getR (pc := 14) dX7_allBones_14 fl_X7_22 hT.1 (hR _ _ _ (rt_T3 hT)) ?_
        refine wp_iload_n (pc := 17) dX7_allBones_17 rfl ?_
        refine wf_iald (pc := 18) (j := m) dX7_allBones_18 hT.2.2.1 rfl (by omega) ?_
        rw [(ht.2.2.1 m (by omega)).2]
        refine wp_iadd (pc := 19) dX7_allBones_19 ?_
        refine wp_istore_n (pc := 20) (L' := [_, _, _, _]) dX7_allBones_20 (Nat.le_of_ble_eq_true rfl) rfl rfl ?_
        refine wp_iinc1 (pc := 21) (L' := [_, _, _, _]) dX7_allBones_21 rfl rfl rfl ?_
        refine wp_goto (pc := 24) 4 dX7_allBones_24 (by decide) ?_
        exact ih (m + 1) (by omega) (by omega)
  refine wp_ic (pc := 0) (x := nI 0) dX7_allBones_0 ic_0 ?_
  refine wp_istore_n (pc := 1) (L' := [_, _, _, _]) dX7_allBones_1 (Nat.le_of_ble_eq_true rfl) rfl rfl ?_
  refine wp_ic (pc := 2) (x := nI 0) dX7_allBones_2 ic_0 ?_
  refine wp_istore_n (pc := 3) (L' := [_, _, _, _]) dX7_allBones_3 (Nat.le_of_ble_eq_true rfl) rfl rfl ?_
  exact loop (lD Λ) 0 (by omega) (by omega)
theorem c_Town_become {l : Launch} {K : CtxT} {M : Mm} {t t2 : Nat} (hT : IT t) (hT2 : IT t2) (hR : RS M) (hd : t + 6 ≤ t2 ∨ t2 + 6 ≤ t) : Cv l K 1 mX7_become [.ref (K.1 + t), .ref (K.1 + t2)] M (fun M' => Cp t t2 M M' ∧ Sm t (t + 6) M M') := by
  refine cv_of (L := [some (.ref (K.1 + t)), some (.ref (K.1 + t2))]) (by decide +kernel) (Nat.le_of_ble_eq_true rfl) rfl rfl (fun E => ?_)
  refine wp_aload_n (pc := 0) dX7_become_0 rfl ?_
  refine wp_aload_n (pc := 1) dX7_become_1 rfl ?_
  refine wf_getI (pc := 2) dX7_become_2 fl_X7_9 hT2.1 ?_
  refine wf_putI (pc := 5) dX7_become_5 fl_X7_9 hT.1 ?_
  refine wp_aload_n (pc := 8) dX7_become_8 rfl ?_
  refine wp_aload_n (pc := 9) dX7_become_9 rfl ?_
  refine wf_getI (pc := 10) dX7_become_10 fl_X7_15 hT2.1 ?_
  refine wf_putI (pc := 13) dX7_become_13 fl_X7_15 hT.1 ?_
  refine wp_aload_n (pc := 16) dX7_become_16 rfl ?_
  refine wf_getR (pc := 17) dX7_become_17 fl_X7_18 hT2.1 (hR _ _ _ (rt_T2 hT2)) ?_
  refine wp_ic (pc := 20) (x := nI 0) dX7_become_20 ic_0 ?_
  refine wp_aload_n (pc := 21) dX7_become_21 rfl ?_
  refine wf_getR (pc := 22) dX7_become_22 fl_X7_18 hT.1 (hR _ _ _ (rt_T2 hT)) ?_
  refine wp_ic (pc := 25) (x := nI 0) dX7_become_25 ic_0 ?_
  refine wp_ic (pc := 26) (x := nI 4) dX7_become_26 ic_4 ?_
  refine wf_copy (pc := 27) dX7_become_27 ac_X7_34 hT2.2.1 hT.2.1 (by decide) (by decide) (Nat.le_of_ble_eq_true rfl) (by decide) ?_
  refine wp_aload_n (pc := 30) dX7_become_30 rfl ?_
  refine wf_getR (pc := 31) dX7_become_31 fl_X7_22 hT2.1 (hR _ _ _ (rt_T3 hT2)) ?_
  refine wp_ic (pc := 34) (x := nI 0) dX7_become_34 ic_0 ?_
  refine wp_aload_n (pc := 35) dX7_become_35 rfl ?_
  refine wf_getR (pc := 36) dX7_become_36 fl_X7_22 hT.1 (hR _ _ _ (rt_T3 hT)) ?_
  refine wp_ic (pc := 39) (x := nI 0) dX7_become_39 ic_0 ?_
  refine wp_ic (pc := 40) (x := nI 4) dX7_become_40 ic_4 ?_
  refine wf_copy (pc := 41) dX7_become_41 ac_X7_34 hT2.2.2.1 hT.2.2.1 (by decide) (by decide) (Nat.le_of_ble_eq_true rfl) (by decide) ?_
  refine wp_aload_n (pc := 44) dX7_become_44 rfl ?_
  refine wf_getR (pc := 45) dX7_become_45 fl_X7_25 hT2.1 (hR _ _ _ (rt_T4 hT2)) ?_
  refine wp_ic (pc := 48) (x := nI 0) dX7_become_48 ic_0 ?_
  refine wp_aload_n (pc := 49) dX7_become_49 rfl ?_
  refine wf_getR (pc := 50) dX7_become_50 fl_X7_25 hT.1 (hR _ _ _ (rt_T4 hT)) ?_
  refine wp_ic (pc := 53) (x := nI 0) dX7_become_53 ic_0 ?_
  refine wp_ic (pc := 54) (x := nI 5) dX7_become_54 ic_5 ?_
  refine wf_copy (pc := 55) dX7_become_55 ac_X7_34 hT2.2.2.2.1 hT.2.2.2.1 (by decide) (by decide) (Nat.le_of_ble_eq_true rfl) (by decide) ?_
  refine wp_aload_n (pc := 58) dX7_become_58 rfl ?_
  refine wf_getR (pc := 59) dX7_become_59 fl_X7_28 hT2.1 (hR _ _ _ (rt_T5 hT2)) ?_
  refine wp_ic (pc := 62) (x := nI 0) dX7_become_62 ic_0 ?_
  refine wp_aload_n (pc := 63) dX7_become_63 rfl ?_
  refine wf_getR (pc := 64) dX7_become_64 fl_X7_28 hT.1 (hR _ _ _ (rt_T5 hT)) ?_
  refine wp_ic (pc := 67) (x := nI 0) dX7_become_67 ic_0 ?_
  refine wp_ic (pc := 68) (x := nI 5) dX7_become_68 ic_5 ?_
  refine wf_copy (pc := 69) dX7_become_69 ac_X7_34 hT2.2.2.2.2.1 hT.2.2.2.2.1 (by decide) (by decide) (Nat.le_of_ble_eq_true rfl) (by decide) ?_
  refine wp_aload_n (pc := 72) dX7_become_72 rfl ?_
  refine wf_getR (pc := 73) dX7_become_73 fl_X7_31 hT2.1 (hR _ _ _ (rt_T6 hT2)) ?_
  refine wp_ic (pc := 76) (x := nI 0) dX7_become_76 ic_0 ?_
  refine wp_aload_n (pc := 77) dX7_become_77 rfl ?_
  refine wf_getR (pc := 78) dX7_become_78 fl_X7_31 hT.1 (hR _ _ _ (rt_T6 hT)) ?_
  refine wp_ic (pc := 81) (x := nI 0) dX7_become_81 ic_0 ?_
  refine wp_ic (pc := 82) (x := nI 5) dX7_become_82 ic_5 ?_
  refine wf_copy (pc := 83) dX7_become_83 ac_X7_34 hT2.2.2.2.2.2 hT.2.2.2.2.2 (by decide) (by decide) (Nat.le_of_ble_eq_true rfl) (by decide) ?_
  refine wf_vret (pc := 86) dX7_become_86 rfl ?_
  refine ⟨⟨fun k hk => ?_, fun k hk => ?_, fun k hk => ?_⟩, ?_⟩
  · rcases (show k = 0 ∨ k = 1 by omega) with rfl | rfl <;> simp (disch := omega) only [wC_na, wI_at, wI_nk, wI_na]
  · constructor <;> simp (disch := omega) only [wC_at, wC_na, wI_at, wI_nk, wI_na]
  · refine ⟨?_, ?_, ?_⟩ <;> simp (disch := omega) only [wC_at, wC_na, wI_at, wI_nk, wI_na]
  · exact (((((((Sm.w (by omega) (by omega)).tr (Sm.w (by omega) (by omega))).tr (Sm.c (by omega) (by omega))).tr (Sm.c (by omega) (by omega))).tr (Sm.c (by omega) (by omega))).tr (Sm.c (by omega) (by omega))).tr (Sm.c (by omega) (by omega)))
theorem c_impound {l : Launch} {K : CtxT} {M : Mm} {t w : Nat} {Λ : Lw} {P : Pg} (hT : IT t) (hW : IL w) (hR : RS M) (hL : OkN Λ) (hx : XL M w Λ) (ht : XT M t Λ P) (hd : w + 5 ≤ t ∨ t + 6 ≤ w) {m : Nat} (hm : m < lM Λ) (hk : P (8 + m) = no9 ∨ ∃ d, d < lD Λ ∧ P (8 + m) = nI d) : Cv l K 1 mX7_impound [.ref (K.1 + t), .ref (K.1 + w), .int (nI m)] M (fun M' => XT M' t Λ (catP P m) ∧ Sm t (t + 6) M M') := by
  have hD := hL.1
  have hN := hL.2.1
  refine cv_of (L := [some (.ref (K.1 + t)), some (.ref (K.1 + w)), some (.int (nI m)), none]) (by decide +kernel) (Nat.le_of_ble_eq_true rfl) rfl rfl (fun E => ?_)
  refine wp_aload_n (pc := 0) dX7_impound_0 rfl ?_
  refine wf_getR (pc := 1) dX7_impound_1 fl_X7_31 hT.1 (hR _ _ _ (rt_T6 hT)) ?_
  refine wp_iload_n (pc := 4) dX7_impound_4 rfl ?_
  refine wp_ic (pc := 5) (x := nI 3) dX7_impound_5 ic_3 ?_
  refine wf_iast (pc := 6) (j := m) dX7_impound_6 hT.2.2.2.2.2 rfl (by omega) ?_
  have ht1 := ht.sent ⟨hL.1, hL.2.1⟩ (show m < 5 by omega) (nI 3)
  have hs1 : Sm t (t + 6) M (wI M (t + 5) m (nI 3)) := Sm.w (by omega) (by omega)
  have hx := hx.sm hs1 hd
  have hR := hs1.rs hR
  generalize wI M (t + 5) m (nI 3) = M1 at ht1 hs1 hx hR ⊢
  refine wp_aload_n (pc := 7) dX7_impound_7 rfl ?_
  refine wf_getR (pc := 8) dX7_impound_8 fl_X7_25 hT.1 (hR _ _ _ (rt_T4 hT)) ?_
  refine wp_iload_n (pc := 11) dX7_impound_11 rfl ?_
  refine wf_iald (pc := 12) (j := m) dX7_impound_12 hT.2.2.2.1 rfl (by omega) ?_
  rw [show M1.1 (t + 3) m = P (8 + m) from by rw [(ht1.2.2.2 m hm).1]; simp [upd, show 8 + m ≠ 19 + m by omega]]
  refine wp_istore_n (pc := 13) (L' := [_, _, _, _]) dX7_impound_13 (Nat.le_of_ble_eq_true rfl) rfl rfl ?_
  refine wp_aload_n (pc := 14) dX7_impound_14 rfl ?_
  refine wp_iload_n (pc := 15) dX7_impound_15 rfl ?_
  refine wf_callVi (pc := 16) dX7_impound_16 cl_X7_98 (c_hasDog hW hR hL hx) hW.1 rfl rfl rfl rfl (Nat.le_of_ble_eq_true rfl) (by decide) ⟨Nat.le_refl _, Nat.le_refl _⟩ (fun r16 M16 q16 => ?_)
  rw [q16.1, q16.2]
  refine wp_if_eq (pc := 19) 32 dX7_impound_19 (by decide) (fun h19 => ?_) (fun h19 => ?_)
  · have h19 := b2i_0 h19
    have e : P (8 + m) = no9 := by
      rcases hk with q | ⟨d, hd2, q⟩
      · exact q
      · rw [q, inD_nI (by omega) hd2] at h19; cases h19
    have e2 : catP P m = upd P (19 + m) (nI 3) := by simp [catP, e]
    refine wf_vret (pc := 32) dX7_impound_32 rfl ?_
    first | (rw [e2]; exact ⟨ht1, hs1⟩) | (rw [e2, e3]; exact ⟨ht1.bone ⟨hL.1, hL.2.1⟩ (by omega) _, hs1.tr (Sm.w (by omega) (by omega))⟩)
  · have h19 := b2i_1 h19
    obtain ⟨d0, hd0, e⟩ := inD_of h19 (by omega)
    rw [e]
    have e3 : M1.1 (t + 2) d0 = P (4 + d0) := by rw [(ht1.2.2.1 d0 hd0).2]; simp [upd, show 4 + d0 ≠ 19 + m by omega]
    have e2 : catP P m = upd (upd P (19 + m) (nI 3)) (4 + d0) (P (4 + d0) + nI 2) := by
      have : P (8 + m) ≠ no9 := by rw [e]; exact fun q => absurd (nI_pos (n := d0) (by omega)) (by rw [q]; decide)
      simp only [catP, this, ne_eq, not_false_eq_true, if_true]
      rw [e, nI_clamp (by omega)]
    refine wp_aload_n (pc := 22) dX7_impound_22 rfl ?_
    refine wf_getR (pc := 23) dX7_impound_23 fl_X7_22 hT.1 (hR _ _ _ (rt_T3 hT)) ?_
    refine wp_iload_n (pc := 26) dX7_impound_26 rfl ?_
    refine wp_dup2 (pc := 27) dX7_impound_27 rfl rfl ?_
    refine wf_iald (pc := 28) (j := d0) dX7_impound_28 hT.2.2.1 rfl (by omega) ?_
    refine wp_ic (pc := 29) (x := nI 2) dX7_impound_29 ic_2 ?_
    refine wp_iadd (pc := 30) dX7_impound_30 ?_
    refine wf_iast (pc := 31) (j := d0) dX7_impound_31 hT.2.2.1 rfl (by omega) ?_
    refine wf_vret (pc := 32) dX7_impound_32 rfl ?_
    first | (rw [e2]; exact ⟨ht1, hs1⟩) | (rw [e2, e3]; exact ⟨ht1.bone ⟨hL.1, hL.2.1⟩ (by omega) _, hs1.tr (Sm.w (by omega) (by omega))⟩)
theorem c_serve {l : Launch} {K : CtxT} {M : Mm} {t w : Nat} {Λ : Lw} {P : Pg} (hT : IT t) (hW : IL w) (hR : RS M) (hL : OkN Λ) (hx : XL M w Λ) (ht : XT M t Λ P) (hd : w + 5 ≤ t ∨ t + 6 ≤ w) {m : Nat} (hm : m < lM Λ) (hk : P (8 + m) = no9 ∨ ∃ d, d < lD Λ ∧ P (8 + m) = nI d) : Cv l K 1 mX7_serve [.ref (K.1 + t), .ref (K.1 + w), .int (nI m)] M (fun M' => XT M' t Λ (servP P m) ∧ Sm t (t + 6) M M') := by
  have hD := hL.1
  have hN := hL.2.1
  refine cv_of (L := [some (.ref (K.1 + t)), some (.ref (K.1 + w)), some (.int (nI m)), none]) (by decide +kernel) (Nat.le_of_ble_eq_true rfl) rfl rfl (fun E => ?_)
  refine wp_aload_n (pc := 0) dX7_serve_0 rfl ?_
  refine wf_getR (pc := 1) dX7_serve_1 fl_X7_31 hT.1 (hR _ _ _ (rt_T6 hT)) ?_
  refine wp_iload_n (pc := 4) dX7_serve_4 rfl ?_
  refine wp_dup2 (pc := 5) dX7_serve_5 rfl rfl ?_
  refine wf_iald (pc := 6) (j := m) dX7_serve_6 hT.2.2.2.2.2 rfl (by omega) ?_
  rw [(ht.2.2.2 m hm).2.2]
  refine wp_ic (pc := 7) (x := nI 1) dX7_serve_7 ic_1 ?_
  refine wp_isub (pc := 8) dX7_serve_8 ?_
  refine wf_iast (pc := 9) (j := m) dX7_serve_9 hT.2.2.2.2.2 rfl (by omega) ?_
  have ht1 := ht.sent ⟨hL.1, hL.2.1⟩ (show m < 5 by omega) (P (19 + m) - nI 1)
  have hs1 : Sm t (t + 6) M (wI M (t + 5) m (P (19 + m) - nI 1)) := Sm.w (by omega) (by omega)
  have hx := hx.sm hs1 hd
  have hR := hs1.rs hR
  generalize wI M (t + 5) m (P (19 + m) - nI 1) = M1 at ht1 hs1 hx hR ⊢
  refine wp_aload_n (pc := 10) dX7_serve_10 rfl ?_
  refine wf_getR (pc := 11) dX7_serve_11 fl_X7_25 hT.1 (hR _ _ _ (rt_T4 hT)) ?_
  refine wp_iload_n (pc := 14) dX7_serve_14 rfl ?_
  refine wf_iald (pc := 15) (j := m) dX7_serve_15 hT.2.2.2.1 rfl (by omega) ?_
  rw [show M1.1 (t + 3) m = P (8 + m) from by rw [(ht1.2.2.2 m hm).1]; simp [upd, show 8 + m ≠ 19 + m by omega]]
  refine wp_istore_n (pc := 16) (L' := [_, _, _, _]) dX7_serve_16 (Nat.le_of_ble_eq_true rfl) rfl rfl ?_
  refine wp_aload_n (pc := 17) dX7_serve_17 rfl ?_
  refine wp_iload_n (pc := 18) dX7_serve_18 rfl ?_
  refine wf_callVi (pc := 19) dX7_serve_19 cl_X7_45 (c_isImpounded hT hR ht1 hm (by omega)) hT.1 rfl rfl rfl rfl (Nat.le_of_ble_eq_true rfl) (by decide) ⟨Nat.le_refl _, Nat.le_refl _⟩ (fun r19 M19 q19 => ?_)
  rw [q19.1, q19.2]
  refine wp_if_ne (pc := 22) 45 dX7_serve_22 (by decide) (fun h22 => ?_) (fun h22 => ?_)
  · have h22 := b2i_1 h22
    have h22 := of_decide_eq_true h22
    rw [show upd P (19 + m) (P (19 + m) - nI 1) (19 + m) = P (19 + m) - nI 1 from by simp [upd]] at h22
    have e2 : servP P m = upd P (19 + m) (P (19 + m) - nI 1) := by simp [servP, h22]
    refine wf_vret (pc := 45) dX7_serve_45 rfl ?_
    first | (rw [e2]; exact ⟨ht1, hs1⟩) | (rw [e2, e3]; exact ⟨ht1.man ⟨hL.1, hL.2.1⟩ (by omega) _, hs1.tr (Sm.w (by omega) (by omega))⟩)
  · have h22 := b2i_0 h22
    have h22 := of_decide_eq_false h22
    rw [show upd P (19 + m) (P (19 + m) - nI 1) (19 + m) = P (19 + m) - nI 1 from by simp [upd]] at h22
    refine wp_aload_n (pc := 25) dX7_serve_25 rfl ?_
    refine wp_iload_n (pc := 26) dX7_serve_26 rfl ?_
    refine wf_callVi (pc := 27) dX7_serve_27 cl_X7_98 (c_hasDog hW hR hL hx) hW.1 rfl rfl rfl rfl (Nat.le_of_ble_eq_true rfl) (by decide) ⟨Nat.le_refl _, Nat.le_refl _⟩ (fun r27 M27 q27 => ?_)
    rw [q27.1, q27.2]
    refine wp_if_eq (pc := 30) 45 dX7_serve_30 (by decide) (fun h30 => ?_) (fun h30 => ?_)
    · have h30 := b2i_0 h30
      have e : P (8 + m) = no9 := by
        rcases hk with q | ⟨d, hd2, q⟩
        · exact q
        · rw [q, inD_nI (by omega) hd2] at h30; cases h30
      have e2 : servP P m = upd P (19 + m) (P (19 + m) - nI 1) := by simp [servP, e]
      refine wf_vret (pc := 45) dX7_serve_45 rfl ?_
      first | (rw [e2]; exact ⟨ht1, hs1⟩) | (rw [e2, e3]; exact ⟨ht1.man ⟨hL.1, hL.2.1⟩ (by omega) _, hs1.tr (Sm.w (by omega) (by omega))⟩)
    · have h30 := b2i_1 h30
      obtain ⟨d0, hd0, e⟩ := inD_of h30 (by omega)
      rw [e]
      have e3 : M1.1 (t + 1) d0 = P d0 := by rw [(ht1.2.2.1 d0 hd0).1]; simp [upd, show d0 ≠ 19 + m by omega]
      have e2 : servP P m = upd (upd P (19 + m) (P (19 + m) - nI 1)) (13 + m) (P d0) := by
        have : P (8 + m) ≠ no9 := by rw [e]; exact fun q => absurd (nI_pos (n := d0) (by omega)) (by rw [q]; decide)
        simp only [servP, this, ne_eq, not_false_eq_true, and_true, h22, if_true]
        rw [e, nI_clamp (by omega)]
      refine wp_aload_n (pc := 33) dX7_serve_33 rfl ?_
      refine wf_getR (pc := 34) dX7_serve_34 fl_X7_28 hT.1 (hR _ _ _ (rt_T5 hT)) ?_
      refine wp_iload_n (pc := 37) dX7_serve_37 rfl ?_
      refine wp_aload_n (pc := 38) dX7_serve_38 rfl ?_
      refine wf_getR (pc := 39) dX7_serve_39 fl_X7_18 hT.1 (hR _ _ _ (rt_T2 hT)) ?_
      refine wp_iload_n (pc := 42) dX7_serve_42 rfl ?_
      refine wf_iald (pc := 43) (j := d0) dX7_serve_43 hT.2.1 rfl (by omega) ?_
      refine wf_iast (pc := 44) (j := m) dX7_serve_44 hT.2.2.2.2.1 rfl (by omega) ?_
      refine wf_vret (pc := 45) dX7_serve_45 rfl ?_
      first | (rw [e2]; exact ⟨ht1, hs1⟩) | (rw [e2, e3]; exact ⟨ht1.man ⟨hL.1, hL.2.1⟩ (by omega) _, hs1.tr (Sm.w (by omega) (by omega))⟩)
theorem servP_keeper (P : Pg) {m j : Nat} (hm : m < 5) (hj : j < 5) : servP P m (8 + j) = P (8 + j) := by
  unfold servP
  split <;> simp [upd, show 8 + j ≠ 19 + m by omega, show 8 + j ≠ 13 + m by omega]
theorem catP_keeper (P : Pg) {m j d : Nat} (hm : m < 5) (hj : j < 5) (hd : d < 4) (hk : P (8 + m) = no9 ∨ P (8 + m) = nI d) : catP P m (8 + j) = P (8 + j) := by
  unfold catP
  rcases hk with q | q
  · simp [upd, q, show 8 + j ≠ 19 + m by omega]
  · rw [q, nI_clamp (by omega)]
    split <;> simp [upd, show 8 + j ≠ 19 + m by omega, show 8 + j ≠ 4 + d by omega]
/-- who keeps whom -/
def KpP (Λ : Lw) (P : Pg) : Prop := ∀ m, m < lM Λ → P (8 + m) = no9 ∨ ∃ d, d < lD Λ ∧ P (8 + m) = nI d
theorem hitP_keeper {Λ : Lw} {late : Bool} {wd : Int32} {c : Int32 × Pg} (hL : lD Λ ≤ 4 ∧ lM Λ ≤ 5) (hk : KpP Λ c.2) : ∀ m, m ≤ lM Λ → ∀ j, j < 5 → (hitP Λ late wd c m).2 (8 + j) = c.2 (8 + j)
  | 0, _, j, _ => rfl
  | m + 1, hm, j, hj => by
    have ih := hitP_keeper hL hk (late := late) (wd := wd) m (by omega)
    show (hstP Λ late wd (hitP Λ late wd c m) m).2 (8 + j) = _
    unfold hstP
    split
    · rw [show ((hitP Λ late wd c m).1, servP (hitP Λ late wd c m).2 m).2 = servP (hitP Λ late wd c m).2 m from rfl, servP_keeper _ (by omega) hj]; exact ih j hj
    · split
      · have h1 := hk m (by omega)
        rw [← ih m (by omega)] at h1
        show catP (hitP Λ late wd c m).2 m (8 + j) = _
        rcases h1 with q | ⟨d, hd, q⟩
        · rw [catP_keeper (d := 0) _ (by omega) hj (by omega) (Or.inl q)]; exact ih j hj
        · rw [catP_keeper (d := d) _ (by omega) hj (by omega) (Or.inr q)]; exact ih j hj
      · exact ih j hj
theorem c_passHour {l : Launch} {K : CtxT} {M : Mm} {t w : Nat} {Λ : Lw} {P : Pg} (hT : IT t) (hW : IL w) (hR : RS M) (hL : OkN Λ) (hx : XL M w Λ) (ht : XT M t Λ P) (hk : KpP Λ P) (hd : w + 5 ≤ t ∨ t + 6 ≤ w) {h far : Nat} {x : Int32} (hh : P 24 = nI h) (hf : h + far < 2 ^ 31) : Ci l K 3 mX7_passHour [.ref (K.1 + t), .ref (K.1 + w), .int x, .int (nI far)] M (fun r M' => r = (hourP Λ P h far x).1 ∧ XT M' t Λ (hourP Λ P h far x).2 ∧ Sm t (t + 6) M M') := by
  have hD := hL.1
  have hN := hL.2.1
  refine ci_of (L := [some (.ref (K.1 + t)), some (.ref (K.1 + w)), some (.int x), some (.int (nI far)), none, none, none, none]) (by decide +kernel) (Nat.le_of_ble_eq_true rfl) rfl rfl (fun E => ?_)
  have loop : ∀ (n m : Nat) (M1 : Mm), n = lM Λ - m → m ≤ lM Λ → RS M1 → XL M1 w Λ → XT M1 t Λ (hitP Λ (decide (x ≤ nI (h % 12))) (lRo Λ ((h + far) % 4)) (nI 0, P) m).2 → Sm t (t + 6) M M1 → Wp E K mX7_passHour 3 (0, 0) 28 [some (.ref (K.1 + t)), some (.ref (K.1 + w)), some (.int x), some (.int (nI far)), some (.int (lRo Λ ((h + far) % 4))), some (.int (b2i (decide (x ≤ nI (h % 12))))), some (.int (hitP Λ (decide (x ≤ nI (h % 12))) (lRo Λ ((h + far) % 4)) (nI 0, P) m).1), some (.int (nI m))] [] 168 M1 0 0 (zI E K (fun r M' => r = (hourP Λ P h far x).1 ∧ XT M' t Λ (hourP Λ P h far x).2 ∧ Sm t (t + 6) M M')) := by
    intro n
    induction n with
    | zero =>
      intro m M1 hn hm hR hx ht hs
      refine wp_iload (pc := 28) dX7_passHour_28 rfl ?_
      refine wp_aload_n (pc := 30) dX7_passHour_30 rfl ?_
      refine wf_getI (pc := 31) dX7_passHour_31 fl_X7_40 hW.1 ?_
      rw [hx.2.1]
      refine wp_icmp_ge (pc := 34) 102 dX7_passHour_34 (by decide) (fun h34 => ?_) (fun h34 => ?_)
      · have e : m = lM Λ := by omega
        subst e
        refine wp_aload_n (pc := 102) dX7_passHour_102 rfl ?_
        refine wp_dup (pc := 103) dX7_passHour_103 rfl ?_
        refine wf_getI (pc := 104) dX7_passHour_104 fl_X7_9 hT.1 ?_
        refine wp_ic (pc := 107) (x := nI 1) dX7_passHour_107 ic_1 ?_
        refine wp_iadd (pc := 108) dX7_passHour_108 ?_
        refine wf_putI (pc := 109) dX7_passHour_109 fl_X7_9 hT.1 ?_
        refine wp_iload (pc := 112) dX7_passHour_112 rfl ?_
        refine wf_iret (pc := 114) dX7_passHour_114 rfl ?_
        have e := ht.1
        exact ⟨rfl, by rw [e]; exact ht.hour ⟨hL.1, hL.2.1⟩ _, hs.tr (Sm.w (by omega) (by omega))⟩
      · exact absurd (nI_le (by omega) (by omega)) h34
    | succ n ih =>
      intro m M1 hn hm hR hx ht hs
      have hkm : (hitP Λ (decide (x ≤ nI (h % 12))) (lRo Λ ((h + far) % 4)) (nI 0, P) m).2 (8 + m) = no9 ∨ ∃ d, d < lD Λ ∧ (hitP Λ (decide (x ≤ nI (h % 12))) (lRo Λ ((h + far) % 4)) (nI 0, P) m).2 (8 + m) = nI d := by
        rw [hitP_keeper ⟨hL.1, hL.2.1⟩ hk m hm m (by omega)]
        exact hk m (by omega)
      refine wp_iload (pc := 28) dX7_passHour_28 rfl ?_
      refine wp_aload_n (pc := 30) dX7_passHour_30 rfl ?_
      refine wf_getI (pc := 31) dX7_passHour_31 fl_X7_40 hW.1 ?_
      rw [hx.2.1]
      refine wp_icmp_ge (pc := 34) 102 dX7_passHour_34 (by decide) (fun h34 => ?_) (fun h34 => ?_)
      · exact absurd h34 (nI_ge (by omega) (by omega))
      · refine wp_aload_n (pc := 37) dX7_passHour_37 rfl ?_
        refine wp_iload (pc := 38) dX7_passHour_38 rfl ?_
        refine wf_callVi (pc := 40) dX7_passHour_40 cl_X7_45 (c_isImpounded hT hR ht (show m < lM Λ by omega) (by omega)) hT.1 rfl rfl rfl rfl (Nat.le_of_ble_eq_true rfl) (by decide) ⟨Nat.le_refl _, Nat.le_refl _⟩ (fun r40 M40 q40 => ?_)
        rw [q40.1, q40.2]
        refine wp_if_eq (pc := 43) 56 dX7_passHour_43 (by decide) (fun h43 => ?_) (fun h43 => ?_)
        · have h43 := b2i_0 h43
          have h43 := of_decide_eq_false h43
          refine wp_aload_n (pc := 56) dX7_passHour_56 rfl ?_
          refine wf_getR (pc := 57) dX7_passHour_57 fl_X7_28 hT.1 (hR _ _ _ (rt_T5 hT)) ?_
          refine wp_iload (pc := 60) dX7_passHour_60 rfl ?_
          refine wf_iald (pc := 62) (j := m) dX7_passHour_62 hT.2.2.2.2.1 rfl (by omega) ?_
          refine wp_iload (pc := 63) dX7_passHour_63 rfl ?_
          rw [(ht.2.2.2 m (by omega)).2.1]
          refine wp_icmp_ne (pc := 65) 96 dX7_passHour_65 (by decide) (fun h65 => ?_) (fun h65 => ?_)
          · have e2 : hitP Λ (decide (x ≤ nI (h % 12))) (lRo Λ ((h + far) % 4)) (nI 0, P) (m + 1) = hitP Λ (decide (x ≤ nI (h % 12))) (lRo Λ ((h + far) % 4)) (nI 0, P) m := by simp only [hitP, hstP, h43, h65, if_false, false_and]
            refine wp_iinc1 (pc := 96) (L' := [_, _, _, _, _, _, _, _]) dX7_passHour_96 rfl rfl rfl ?_
            refine wp_goto (pc := 99) 28 dX7_passHour_99 (by decide) ?_
            have g := ih (m + 1) _ (by omega) (by omega) hR hx (by rw [e2]; exact ht) hs
            rw [e2] at g
            exact g
          · refine wp_aload_n (pc := 68) dX7_passHour_68 rfl ?_
            refine wp_aload_n (pc := 69) dX7_passHour_69 rfl ?_
            refine wp_iload (pc := 70) dX7_passHour_70 rfl ?_
            refine wp_iload (pc := 72) dX7_passHour_72 rfl ?_
            refine wf_callVi (pc := 74) dX7_passHour_74 cl_X7_80 (c_mayBeCaught hT hW hR hL hx ht (show m < lM Λ by omega)) hT.1 rfl rfl rfl rfl (Nat.le_of_ble_eq_true rfl) (by decide) ⟨Nat.le_refl _, Nat.le_refl _⟩ (fun r74 M74 q74 => ?_)
            rw [q74.1, q74.2]
            refine wp_if_eq (pc := 77) 96 dX7_passHour_77 (by decide) (fun h77 => ?_) (fun h77 => ?_)
            · have h77 := b2i_0 h77
              have e2 : hitP Λ (decide (x ≤ nI (h % 12))) (lRo Λ ((h + far) % 4)) (nI 0, P) (m + 1) = hitP Λ (decide (x ≤ nI (h % 12))) (lRo Λ ((h + far) % 4)) (nI 0, P) m := by simp [hitP, hstP, h43, h77]
              refine wp_iinc1 (pc := 96) (L' := [_, _, _, _, _, _, _, _]) dX7_passHour_96 rfl rfl rfl ?_
              refine wp_goto (pc := 99) 28 dX7_passHour_99 (by decide) ?_
              have g := ih (m + 1) _ (by omega) (by omega) hR hx (by rw [e2]; exact ht) hs
              rw [e2] at g
              exact g
            · have h77 := b2i_1 h77
              have e2 : hitP Λ (decide (x ≤ nI (h % 12))) (lRo Λ ((h + far) % 4)) (nI 0, P) (m + 1) = ((hitP Λ (decide (x ≤ nI (h % 12))) (lRo Λ ((h + far) % 4)) (nI 0, P) m).1 ||| bit m, catP (hitP Λ (decide (x ≤ nI (h % 12))) (lRo Λ ((h + far) % 4)) (nI 0, P) m).2 m) := by simp [hitP, hstP, h43, h65, h77]
              refine wp_aload_n (pc := 80) dX7_passHour_80 rfl ?_
              refine wp_aload_n (pc := 81) dX7_passHour_81 rfl ?_
              refine wp_iload (pc := 82) dX7_passHour_82 rfl ?_
              refine wf_callVv (pc := 84) dX7_passHour_84 cl_X7_84 (c_impound hT hW hR hL hx ht hd (show m < lM Λ by omega) hkm) hT.1 rfl rfl rfl rfl (Nat.le_of_ble_eq_true rfl) (by decide) ⟨Nat.le_refl _, Nat.le_refl _⟩ (fun M84 q84 => ?_)
              have hx := hx.sm q84.2 hd
              have hR := q84.2.rs hR
              have hs := hs.tr q84.2
              have ht := q84.1
              refine wp_iload (pc := 87) dX7_passHour_87 rfl ?_
              refine wp_ic (pc := 89) (x := nI 1) dX7_passHour_89 ic_1 ?_
              refine wp_iload (pc := 90) dX7_passHour_90 rfl ?_
              refine wp_ishl (pc := 92) dX7_passHour_92 ?_
              refine wp_ior (pc := 93) dX7_passHour_93 ?_
              refine wp_istore (pc := 94) (L' := [_, _, _, _, _, _, _, _]) dX7_passHour_94 (Nat.le_of_ble_eq_true rfl) rfl rfl ?_
              refine wp_iinc1 (pc := 96) (L' := [_, _, _, _, _, _, _, _]) dX7_passHour_96 rfl rfl rfl ?_
              refine wp_goto (pc := 99) 28 dX7_passHour_99 (by decide) ?_
              have g := ih (m + 1) _ (by omega) (by omega) hR hx (by rw [e2]; exact ht) hs
              rw [e2] at g
              exact g
        · have h43 := b2i_1 h43
          have h43 := of_decide_eq_true h43
          have e2 : hitP Λ (decide (x ≤ nI (h % 12))) (lRo Λ ((h + far) % 4)) (nI 0, P) (m + 1) = ((hitP Λ (decide (x ≤ nI (h % 12))) (lRo Λ ((h + far) % 4)) (nI 0, P) m).1, servP (hitP Λ (decide (x ≤ nI (h % 12))) (lRo Λ ((h + far) % 4)) (nI 0, P) m).2 m) := by simp only [hitP, hstP, h43, if_true]
          refine wp_aload_n (pc := 46) dX7_passHour_46 rfl ?_
          refine wp_aload_n (pc := 47) dX7_passHour_47 rfl ?_
          refine wp_iload (pc := 48) dX7_passHour_48 rfl ?_
          refine wf_callVv (pc := 50) dX7_passHour_50 cl_X7_76 (c_serve hT hW hR hL hx ht hd (show m < lM Λ by omega) hkm) hT.1 rfl rfl rfl rfl (Nat.le_of_ble_eq_true rfl) (by decide) ⟨Nat.le_refl _, Nat.le_refl _⟩ (fun M50 q50 => ?_)
          have hx := hx.sm q50.2 hd
          have hR := q50.2.rs hR
          have hs := hs.tr q50.2
          have ht := q50.1
          refine wp_goto (pc := 53) 96 dX7_passHour_53 (by decide) ?_
          refine wp_iinc1 (pc := 96) (L' := [_, _, _, _, _, _, _, _]) dX7_passHour_96 rfl rfl rfl ?_
          refine wp_goto (pc := 99) 28 dX7_passHour_99 (by decide) ?_
          have g := ih (m + 1) _ (by omega) (by omega) hR hx (by rw [e2]; exact ht) hs
          rw [e2] at g
          exact g
  refine wp_aload_n (pc := 0) dX7_passHour_0 rfl ?_
  refine wp_aload_n (pc := 1) dX7_passHour_1 rfl ?_
  refine wf_getI (pc := 2) dX7_passHour_2 fl_X7_9 hT.1 ?_
  rw [ht.1, hh]
  refine wp_iload_n (pc := 5) dX7_passHour_5 rfl ?_
  refine wp_iadd (pc := 6) dX7_passHour_6 ?_
  rw [nI_add]
  refine wf_callVi (pc := 7) dX7_passHour_7 cl_X7_69 (c_wardenAt hW hR hL hx hf) hW.1 rfl rfl rfl rfl (Nat.le_of_ble_eq_true rfl) (by decide) ⟨Nat.le_refl _, Nat.le_refl _⟩ (fun r7 M7 q7 => ?_)
  rw [q7.1, q7.2]
  refine wp_istore (pc := 10) (L' := [_, _, _, _, _, _, _, _]) dX7_passHour_10 (Nat.le_of_ble_eq_true rfl) rfl rfl ?_
  refine wp_aload_n (pc := 12) dX7_passHour_12 rfl ?_
  refine wf_getI (pc := 13) dX7_passHour_13 fl_X7_9 hT.1 ?_
  rw [ht.1, hh]
  refine wp_iload_n (pc := 16) dX7_passHour_16 rfl ?_
  refine wf_callSi (pc := 17) dX7_passHour_17 cl_X7_72 (c_isLate (show h < 2 ^ 31 by omega)) rfl rfl (Nat.le_of_ble_eq_true rfl) (by decide) ⟨Nat.le_refl _, Nat.le_refl _⟩ (fun r17 M17 q17 => ?_)
  rw [q17.1, q17.2]
  refine wp_istore (pc := 20) (L' := [_, _, _, _, _, _, _, _]) dX7_passHour_20 (Nat.le_of_ble_eq_true rfl) rfl rfl ?_
  refine wp_ic (pc := 22) (x := nI 0) dX7_passHour_22 ic_0 ?_
  refine wp_istore (pc := 23) (L' := [_, _, _, _, _, _, _, _]) dX7_passHour_23 (Nat.le_of_ble_eq_true rfl) rfl rfl ?_
  refine wp_ic (pc := 25) (x := nI 0) dX7_passHour_25 ic_0 ?_
  refine wp_istore (pc := 26) (L' := [_, _, _, _, _, _, _, _]) dX7_passHour_26 (Nat.le_of_ble_eq_true rfl) rfl rfl ?_
  exact loop (lM Λ) 0 M (by omega) (by omega) hR hx ht Sm.rf
theorem XT.congr {M : Mm} {t : Nat} {Λ : Lw} {P P' : Pg} (h : XT M t Λ P) (hL : lD Λ ≤ 4 ∧ lM Λ ≤ 5) (e : ∀ j, j < 25 → P' j = P j) : XT M t Λ P' := by
  obtain ⟨h1, h2, h3, h4⟩ := h
  refine ⟨h1.trans (e 24 (by omega)).symm, h2.trans (e 18 (by omega)).symm, fun d hd => ?_, fun m hm => ?_⟩
  · rw [e d (by omega), e (4 + d) (by omega)]; exact h3 d hd
  · rw [e (8 + m) (by omega), e (13 + m) (by omega), e (19 + m) (by omega)]; exact h4 m hm
theorem goPn_same {P : Pg} {d s i j : Nat} (h : j < 13 ∨ 18 ≤ j) (hi : i ≤ 5) (hj : j ≠ d) : goPn P d s i j = P j := by
  unfold goPn
  rw [if_neg hj, if_neg (by omega)]
theorem goPn_0 {P : Pg} {d s j : Nat} : goPn P d s 0 j = upd P d (nI s) j := by
  unfold goPn upd
  by_cases h : j = d
  · rw [if_pos h, if_pos h]
  · rw [if_neg h, if_neg h, if_neg (by omega)]
theorem goPn_yes {P : Pg} {d s m j : Nat} (hd : d < 4) (h : P (8 + m) = nI d ∧ ¬ 0 < P (19 + m)) : goPn P d s (m + 1) j = upd (goPn P d s m) (13 + m) (nI s) j := by
  unfold goPn upd
  dsimp only
  by_cases hj : j = 13 + m
  · subst hj
    rw [if_neg (by omega), if_pos rfl, if_pos]
    rw [show 13 + m - 13 = m by omega]
    exact ⟨by omega, by omega, h⟩
  · rw [if_neg hj]
    by_cases hd : j = d
    · rw [if_pos hd, if_pos hd]
    · rw [if_neg hd, if_neg hd]
      by_cases hc : 13 ≤ j ∧ j < 13 + m ∧ P (8 + (j - 13)) = nI d ∧ ¬ 0 < P (19 + (j - 13))
      · rw [if_pos hc, if_pos ⟨hc.1, by omega, hc.2.2⟩]
      · rw [if_neg hc, if_neg (fun q => hc ⟨q.1, by omega, q.2.2⟩)]
theorem goPn_no {P : Pg} {d s m j : Nat} (h : ¬ (P (8 + m) = nI d ∧ ¬ 0 < P (19 + m))) : goPn P d s (m + 1) j = goPn P d s m j := by
  unfold goPn
  by_cases hd : j = d
  · rw [if_pos hd, if_pos hd]
  · rw [if_neg hd, if_neg hd]
    by_cases hc : 13 ≤ j ∧ j < 13 + m ∧ P (8 + (j - 13)) = nI d ∧ ¬ 0 < P (19 + (j - 13))
    · rw [if_pos hc, if_pos ⟨hc.1, by omega, hc.2.2⟩]
    · rw [if_neg hc, if_neg]
      intro q
      by_cases hj : j = 13 + m
      · subst hj
        rw [show 13 + m - 13 = m by omega] at q
        exact h q.2.2
      · exact hc ⟨q.1, by omega, q.2.2⟩
theorem c_goes {l : Launch} {K : CtxT} {M : Mm} {t w : Nat} {Λ : Lw} {P : Pg} (hT : IT t) (hW : IL w) (hR : RS M) (hL : OkN Λ) (hx : XL M w Λ) (ht : XT M t Λ P) (hd : w + 5 ≤ t ∨ t + 6 ≤ w) {d v : Nat} (hdd : d < lD Λ) (hv : v < 3) (hst : ∃ s, s < 5 ∧ P d = nI s) : Cv l K 1 mX7_goes [.ref (K.1 + t), .ref (K.1 + w), .int (nI d), .int (nI v)] M (fun M' => XT M' t Λ (goP Λ P d v) ∧ Sm t (t + 6) M M') := by
  have hD := hL.1
  have hN := hL.2.1
  have e0 : P d = nI (sN P d) := by
    obtain ⟨s, hs, e⟩ := hst
    unfold sN
    rw [e, nI_clamp (by omega)]
  have hs0 : sN P d < 5 := by
    obtain ⟨s, hs, e⟩ := hst
    unfold sN
    rw [e, nI_clamp (by omega)]
    exact hs
  refine cv_of (L := [some (.ref (K.1 + t)), some (.ref (K.1 + w)), some (.int (nI d)), some (.int (nI v)), none]) (by decide +kernel) (Nat.le_of_ble_eq_true rfl) rfl rfl (fun E => ?_)
  have loop : ∀ (n m : Nat) (M1 : Mm), n = lM Λ - m → m ≤ lM Λ → RS M1 → XL M1 w Λ → XT M1 t Λ (goPn P d (stN (sN P d) v) m) → Sm t (t + 6) M M1 → Wp E K mX7_goes 1 (0, 0) 19 [some (.ref (K.1 + t)), some (.ref (K.1 + w)), some (.int (nI d)), some (.int (nI v)), some (.int (nI m))] [] 168 M1 0 0 (zV E K (fun M' => XT M' t Λ (goP Λ P d v) ∧ Sm t (t + 6) M M')) := by
    intro n
    induction n with
    | zero =>
      intro m M1 hn hm hR hx ht hs
      refine wp_iload (pc := 19) dX7_goes_19 rfl ?_
      refine wp_aload_n (pc := 21) dX7_goes_21 rfl ?_
      refine wf_getI (pc := 22) dX7_goes_22 fl_X7_40 hW.1 ?_
      rw [hx.2.1]
      refine wp_icmp_ge (pc := 25) 67 dX7_goes_25 (by decide) (fun h25 => ?_) (fun h25 => ?_)
      · have e : m = lM Λ := by omega
        subst e
        refine wf_vret (pc := 67) dX7_goes_67 rfl ?_
        exact ⟨ht, hs⟩
      · exact absurd (nI_le (by omega) (by omega)) h25
    | succ n ih =>
      intro m M1 hn hm hR hx ht hs
      refine wp_iload (pc := 19) dX7_goes_19 rfl ?_
      refine wp_aload_n (pc := 21) dX7_goes_21 rfl ?_
      refine wf_getI (pc := 22) dX7_goes_22 fl_X7_40 hW.1 ?_
      rw [hx.2.1]
      refine wp_icmp_ge (pc := 25) 67 dX7_goes_25 (by decide) (fun h25 => ?_) (fun h25 => ?_)
      · exact absurd h25 (nI_ge (by omega) (by omega))
      · refine wp_aload_n (pc := 28) dX7_goes_28 rfl ?_
        refine wf_getR (pc := 29) dX7_goes_29 fl_X7_25 hT.1 (hR _ _ _ (rt_T4 hT)) ?_
        refine wp_iload (pc := 32) dX7_goes_32 rfl ?_
        refine wf_iald (pc := 34) (j := m) dX7_goes_34 hT.2.2.2.1 rfl (by omega) ?_
        rw [(ht.2.2.2 m (by omega)).1, goPn_same (by omega) (by omega) (by omega)]
        refine wp_iload_n (pc := 35) dX7_goes_35 rfl ?_
        refine wp_icmp_ne (pc := 36) 61 dX7_goes_36 (by decide) (fun h36 => ?_) (fun h36 => ?_)
        · have e2 : ∀ j, goPn P d (stN (sN P d) v) (m + 1) j = goPn P d (stN (sN P d) v) m j := fun j => goPn_no (fun q => h36 q.1)
          refine wp_iinc1 (pc := 61) (L' := [_, _, _, _, _]) dX7_goes_61 rfl rfl rfl ?_
          refine wp_goto (pc := 64) 19 dX7_goes_64 (by decide) ?_
          first | exact ih (m + 1) _ (by omega) (by omega) hR hx (ht.congr ⟨hL.1, hL.2.1⟩ (fun j _ => e2 j)) hs | exact ih (m + 1) _ (by omega) (by omega) (hs2.rs hR) (hx.sm hs2 hd) (ht2.congr ⟨hL.1, hL.2.1⟩ (fun j _ => e2 j)) (hs.tr hs2)
        · refine wp_aload_n (pc := 39) dX7_goes_39 rfl ?_
          refine wp_iload (pc := 40) dX7_goes_40 rfl ?_
          refine wf_callVi (pc := 42) dX7_goes_42 cl_X7_45 (c_isImpounded hT hR ht (show m < lM Λ by omega) (by omega)) hT.1 rfl rfl rfl rfl (Nat.le_of_ble_eq_true rfl) (by decide) ⟨Nat.le_refl _, Nat.le_refl _⟩ (fun r42 M42 q42 => ?_)
          rw [q42.1, q42.2]
          refine wp_if_ne (pc := 45) 61 dX7_goes_45 (by decide) (fun h45 => ?_) (fun h45 => ?_)
          · have h45 := b2i_1 h45
            have h45 := of_decide_eq_true h45
            rw [goPn_same (by omega) (by omega) (by omega)] at h45
            have e2 : ∀ j, goPn P d (stN (sN P d) v) (m + 1) j = goPn P d (stN (sN P d) v) m j := fun j => goPn_no (fun q => q.2 h45)
            refine wp_iinc1 (pc := 61) (L' := [_, _, _, _, _]) dX7_goes_61 rfl rfl rfl ?_
            refine wp_goto (pc := 64) 19 dX7_goes_64 (by decide) ?_
            first | exact ih (m + 1) _ (by omega) (by omega) hR hx (ht.congr ⟨hL.1, hL.2.1⟩ (fun j _ => e2 j)) hs | exact ih (m + 1) _ (by omega) (by omega) (hs2.rs hR) (hx.sm hs2 hd) (ht2.congr ⟨hL.1, hL.2.1⟩ (fun j _ => e2 j)) (hs.tr hs2)
          · have h45 := b2i_0 h45
            have h45 := of_decide_eq_false h45
            rw [goPn_same (by omega) (by omega) (by omega)] at h45
            have e2 : ∀ j, goPn P d (stN (sN P d) v) (m + 1) j = upd (goPn P d (stN (sN P d) v) m) (13 + m) (nI (stN (sN P d) v)) j := fun j => goPn_yes (by omega) ⟨h36, h45⟩
            have ht2 := ht.man ⟨hL.1, hL.2.1⟩ (show m < 5 by omega) (nI (stN (sN P d) v))
            have hs2 : Sm t (t + 6) M1 (wI M1 (t + 4) m (nI (stN (sN P d) v))) := Sm.w (by omega) (by omega)
            refine wp_aload_n (pc := 48) dX7_goes_48 rfl ?_
            refine wf_getR (pc := 49) dX7_goes_49 fl_X7_28 hT.1 (hR _ _ _ (rt_T5 hT)) ?_
            refine wp_iload (pc := 52) dX7_goes_52 rfl ?_
            refine wp_aload_n (pc := 54) dX7_goes_54 rfl ?_
            refine wf_getR (pc := 55) dX7_goes_55 fl_X7_18 hT.1 (hR _ _ _ (rt_T2 hT)) ?_
            refine wp_iload_n (pc := 58) dX7_goes_58 rfl ?_
            refine wf_iald (pc := 59) (j := d) dX7_goes_59 hT.2.1 rfl (by omega) ?_
            rw [show M1.1 (t + 1) d = nI (stN (sN P d) v) from by rw [(ht.2.2.1 d hdd).1]; simp [goPn]]
            refine wf_iast (pc := 60) (j := m) dX7_goes_60 hT.2.2.2.2.1 rfl (by omega) ?_
            refine wp_iinc1 (pc := 61) (L' := [_, _, _, _, _]) dX7_goes_61 rfl rfl rfl ?_
            refine wp_goto (pc := 64) 19 dX7_goes_64 (by decide) ?_
            first | exact ih (m + 1) _ (by omega) (by omega) hR hx (ht.congr ⟨hL.1, hL.2.1⟩ (fun j _ => e2 j)) hs | exact ih (m + 1) _ (by omega) (by omega) (hs2.rs hR) (hx.sm hs2 hd) (ht2.congr ⟨hL.1, hL.2.1⟩ (fun j _ => e2 j)) (hs.tr hs2)
  refine wp_aload_n (pc := 0) dX7_goes_0 rfl ?_
  refine wf_getR (pc := 1) dX7_goes_1 fl_X7_18 hT.1 (hR _ _ _ (rt_T2 hT)) ?_
  refine wp_iload_n (pc := 4) dX7_goes_4 rfl ?_
  refine wp_aload_n (pc := 5) dX7_goes_5 rfl ?_
  refine wf_getR (pc := 6) dX7_goes_6 fl_X7_18 hT.1 (hR _ _ _ (rt_T2 hT)) ?_
  refine wp_iload_n (pc := 9) dX7_goes_9 rfl ?_
  refine wf_iald (pc := 10) (j := d) dX7_goes_10 hT.2.1 rfl (by omega) ?_
  rw [(ht.2.2.1 d hdd).1, e0]
  refine wp_iload_n (pc := 11) dX7_goes_11 rfl ?_
  refine wf_callSNi (pc := 12) dX7_goes_12 cl_X7_65 (c_streetBy hs0 hv) rfl rfl (Nat.le_of_ble_eq_true rfl) (by decide) ⟨Nat.le_refl _, Nat.le_refl _⟩ (fun r12 M12 q12 => ?_)
  rw [q12.1, q12.2]
  refine wf_iast (pc := 15) (j := d) dX7_goes_15 hT.2.1 rfl (by omega) ?_
  have ht2 := ht.dog ⟨hL.1, hL.2.1⟩ (show d < 4 by omega) (nI (stN (sN P d) v))
  have hs2 : Sm t (t + 6) M (wI M (t + 1) d (nI (stN (sN P d) v))) := Sm.w (by omega) (by omega)
  refine wp_ic (pc := 16) (x := nI 0) dX7_goes_16 ic_0 ?_
  refine wp_istore (pc := 17) (L' := [_, _, _, _, _]) dX7_goes_17 (Nat.le_of_ble_eq_true rfl) rfl rfl ?_
  exact loop (lM Λ) 0 _ (by omega) (by omega) (hs2.rs hR) (hx.sm hs2 hd) (ht2.congr ⟨hL.1, hL.2.1⟩ (fun j _ => goPn_0)) hs2
