theorem XE.si {M M' : Mm} {pe : Nat → Int32} {lo hi : Nat} (h : XE M pe) (s : Si lo hi M M') (ho : 133 ≤ lo ∨ hi ≤ 132) : XE M' pe := fun k hk => (s 132 (by omega) k).trans (h k hk)
theorem m1_eq (j : Nat) : nI j + Int32.ofInt (-1) = nI j - nI 1 := by
  rw [Int32.sub_eq_add_neg]
  rfl
theorem cw_sum (pe : Nat → Int32) (g r k s : Nat) : cwN pe g (r + 1) k s = sumF (fun w => wbN pe (cwN pe g r (k + 1)) k (stN s w)) 3 := by
  simp [cwN, sumF]
theorem c_countWays {l : Launch} {K : CtxT} {M : Mm} {pe : Nat → Int32} (hR : RS M) (he : XE M pe) {n g : Nat} (hn1 : 1 ≤ n) (hn7 : n ≤ 7) (hg : g < 5) : Cv l K 1 mX1_countWays [.ref (K.1 + 131), .int (nI n), .int (nI g)] M (fun M' => Sm 134 142 M M' ∧ ∀ k, k ≤ n → ∀ s, s < 5 → M'.1 (134 + k) s = nI (cwN pe g (n - k) k s)) := by
  refine cv_of (L := [some (.ref (K.1 + 131)), some (.int (nI n)), some (.int (nI g)), none, none, none]) (by decide +kernel) (Nat.le_of_ble_eq_true rfl) rfl rfl (fun E => ?_)
  have inner : ∀ (j s : Nat), j < n → s < 5 → (∀ M1, Sm 134 142 M M1 → (∀ k, j < k → k ≤ n → ∀ s, s < 5 → M1.1 (134 + k) s = nI (cwN pe g (n - k) k s)) → (∀ s', s' < (s + 1) → M1.1 (134 + j) s' = nI (cwN pe g (n - j) j s')) → Wp E K mX1_countWays 1 (0, 0) 97 [some (.ref (K.1 + 131)), some (.int (nI n)), some (.int (nI g)), some (.int (nI j)), some (.int (nI s)), some (.int (nI 3))] [] 168 M1 0 0 (zV E K (fun M' => Sm 134 142 M M' ∧ ∀ k, k ≤ n → ∀ s, s < 5 → M'.1 (134 + k) s = nI (cwN pe g (n - k) k s)))) →
      ∀ (q v : Nat) (M1 : Mm), q = 3 - v → v ≤ 3 → Sm 134 142 M M1 → (∀ k, j < k → k ≤ n → ∀ s, s < 5 → M1.1 (134 + k) s = nI (cwN pe g (n - k) k s)) → (∀ s', s' < s → M1.1 (134 + j) s' = nI (cwN pe g (n - j) j s')) → M1.1 (134 + j) s = nI (sumF (fun w => wbN pe (cwN pe g (n - j - 1) (j + 1)) j (stN s w)) v) → Wp E K mX1_countWays 1 (0, 0) 61 [some (.ref (K.1 + 131)), some (.int (nI n)), some (.int (nI g)), some (.int (nI j)), some (.int (nI s)), some (.int (nI v))] [] 168 M1 0 0 (zV E K (fun M' => Sm 134 142 M M' ∧ ∀ k, k ≤ n → ∀ s, s < 5 → M'.1 (134 + k) s = nI (cwN pe g (n - k) k s))) := by
    intro j s hj hs hout q
    induction q with
    | zero =>
      intro v M1 hq hv s1 hrow hdone hcur
      refine wp_iload (pc := 61) dX1_countWays_61 rfl ?_
      refine wp_ic (pc := 63) (x := nI 2) dX1_countWays_63 ic_2 ?_
      refine wp_icmp_gt (pc := 64) 97 dX1_countWays_64 (by decide) (fun h64 => ?_) (fun h64 => ?_)
      · have e : v = 3 := by omega
        subst e
        refine hout M1 s1 hrow (fun x hx => ?_)
        rcases Nat.lt_succ_iff_lt_or_eq.mp hx with q | rfl
        · exact hdone x q
        · rw [hcur, show n - j = (n - j - 1) + 1 by omega, cw_sum]; rfl
      · exact absurd (nI_lt (show 2 < v by omega) (by omega)) h64
    | succ q ih =>
      intro v M1 hq hv s1 hrow hdone hcur
      refine wp_iload (pc := 61) dX1_countWays_61 rfl ?_
      refine wp_ic (pc := 63) (x := nI 2) dX1_countWays_63 ic_2 ?_
      refine wp_icmp_gt (pc := 64) 97 dX1_countWays_64 (by decide) (fun h64 => ?_) (fun h64 => ?_)
      · exact absurd h64 (nI_nlt (show v ≤ 2 by omega) (by omega))
      · refine wp_aload_n (pc := 67) dX1_countWays_67 rfl ?_
        refine wf_getR (pc := 68) dX1_countWays_68 fl_X1_17 lk_131 ((s1.rs hR) 131 1 133 rfl) ?_
        refine wp_iload_n (pc := 71) dX1_countWays_71 rfl ?_
        refine wf_aaldA (pc := 72) (j := j) dX1_countWays_72 lk_133 rfl (by omega) (s1.rs hR 133 j _ (rt_ways (by omega))) ?_
        refine wp_iload (pc := 73) dX1_countWays_73 rfl ?_
        refine wp_dup2 (pc := 75) dX1_countWays_75 rfl rfl ?_
        refine wf_iald (pc := 76) (j := s) dX1_countWays_76 (lk_ways _ (by omega)) rfl (by omega) ?_
        rw [hcur]
        refine wp_aload_n (pc := 77) dX1_countWays_77 rfl ?_
        refine wp_iload_n (pc := 78) dX1_countWays_78 rfl ?_
        refine wp_iload (pc := 79) dX1_countWays_79 rfl ?_
        refine wp_iload (pc := 81) dX1_countWays_81 rfl ?_
        refine wf_callSNi (pc := 83) dX1_countWays_83 cl_X1_32 (c_streetBy hs (show v < 3 by omega)) rfl rfl (Nat.le_of_ble_eq_true rfl) (by decide) ⟨Nat.le_refl _, Nat.le_refl _⟩ (fun r83 M83 q83 => ?_)
        rw [q83.1, q83.2]
        refine wf_callVi (pc := 86) dX1_countWays_86 cl_X1_36 (c_waysBy (X := cwN pe g (n - j - 1) (j + 1)) (s1.rs hR) (he.si s1.2 (by omega)) (show j < 7 by omega) (stN_lt _ _) (fun x hx => by rw [hrow (j + 1) (by omega) (by omega) x hx, show n - (j + 1) = n - j - 1 by omega])) lk_131 rfl rfl rfl rfl (Nat.le_of_ble_eq_true rfl) (by decide) ⟨Nat.le_refl _, Nat.le_refl _⟩ (fun r86 M86 q86 => ?_)
        rw [q86.1, q86.2]
        refine wp_iadd (pc := 89) dX1_countWays_89 ?_
        rw [nI_add]
        refine wf_iast (pc := 90) (j := s) dX1_countWays_90 (lk_ways _ (by omega)) rfl (by omega) ?_
        refine wp_iinc1 (pc := 91) (L' := [_, _, _, _, _, _]) dX1_countWays_91 rfl rfl rfl ?_
        refine wp_goto (pc := 94) 61 dX1_countWays_94 (by decide) ?_
        have s2 : Sm 134 142 M1 (wI M1 (134 + j) s (nI (sumF (fun w => wbN pe (cwN pe g (n - j - 1) (j + 1)) j (stN s w)) v + wbN pe (cwN pe g (n - j - 1) (j + 1)) j (stN s v)))) := Sm.w (by omega) (by omega)
        refine ih (v + 1) _ (by omega) (by omega) (s1.tr s2) (fun k hk hkn x hx => ?_) (fun x hx => ?_) (wI_at _ _ _ _)
        · rw [wI_na (by omega)]; exact hrow k hk hkn x hx
        · rw [wI_nk (by omega)]; exact hdone x hx
  have mid : ∀ (j : Nat), j < n → (∀ M1, Sm 134 142 M M1 → (∀ k, j < k → k ≤ n → ∀ s, s < 5 → M1.1 (134 + k) s = nI (cwN pe g (n - k) k s)) → (∀ s', s' < 5 → M1.1 (134 + j) s' = nI (cwN pe g (n - j) j s')) → ∀ z1 z2, Wp E K mX1_countWays 1 (0, 0) 103 [some (.ref (K.1 + 131)), some (.int (nI n)), some (.int (nI g)), some (.int (nI j)), z1, z2] [] 168 M1 0 0 (zV E K (fun M' => Sm 134 142 M M' ∧ ∀ k, k ≤ n → ∀ s, s < 5 → M'.1 (134 + k) s = nI (cwN pe g (n - k) k s)))) →
      ∀ (q s : Nat) (M1 : Mm), q = 5 - s → s ≤ 5 → Sm 134 142 M M1 → (∀ k, j < k → k ≤ n → ∀ s, s < 5 → M1.1 (134 + k) s = nI (cwN pe g (n - k) k s)) → (∀ s', s' < s → M1.1 (134 + j) s' = nI (cwN pe g (n - j) j s')) → ∀ z2, Wp E K mX1_countWays 1 (0, 0) 42 [some (.ref (K.1 + 131)), some (.int (nI n)), some (.int (nI g)), some (.int (nI j)), some (.int (nI s)), z2] [] 168 M1 0 0 (zV E K (fun M' => Sm 134 142 M M' ∧ ∀ k, k ≤ n → ∀ s, s < 5 → M'.1 (134 + k) s = nI (cwN pe g (n - k) k s))) := by
    intro j hj hout q
    induction q with
    | zero =>
      intro s M1 hq hs s1 hrow hdone z2
      refine wp_iload (pc := 42) dX1_countWays_42 rfl ?_
      refine wp_ic (pc := 44) (x := nI 5) dX1_countWays_44 ic_5 ?_
      refine wp_icmp_ge (pc := 45) 103 dX1_countWays_45 (by decide) (fun h45 => ?_) (fun h45 => ?_)
      · have e : s = 5 := by omega
        subst e
        exact hout M1 s1 hrow hdone _ _
      · exact absurd (nI_le (by omega) (by omega)) h45
    | succ q ih =>
      intro s M1 hq hs s1 hrow hdone z2
      refine wp_iload (pc := 42) dX1_countWays_42 rfl ?_
      refine wp_ic (pc := 44) (x := nI 5) dX1_countWays_44 ic_5 ?_
      refine wp_icmp_ge (pc := 45) 103 dX1_countWays_45 (by decide) (fun h45 => ?_) (fun h45 => ?_)
      · exact absurd h45 (nI_ge (by omega) (by omega))
      · refine wp_aload_n (pc := 48) dX1_countWays_48 rfl ?_
        refine wf_getR (pc := 49) dX1_countWays_49 fl_X1_17 lk_131 ((s1.rs hR) 131 1 133 rfl) ?_
        refine wp_iload_n (pc := 52) dX1_countWays_52 rfl ?_
        refine wf_aaldA (pc := 53) (j := j) dX1_countWays_53 lk_133 rfl (by omega) (s1.rs hR 133 j _ (rt_ways (by omega))) ?_
        refine wp_iload (pc := 54) dX1_countWays_54 rfl ?_
        refine wp_ic (pc := 56) (x := nI 0) dX1_countWays_56 ic_0 ?_
        refine wf_iast (pc := 57) (j := s) dX1_countWays_57 (lk_ways _ (by omega)) rfl (by omega) ?_
        refine wp_ic (pc := 58) (x := nI 0) dX1_countWays_58 ic_0 ?_
        refine wp_istore (pc := 59) (L' := [_, _, _, _, _, _]) dX1_countWays_59 (Nat.le_of_ble_eq_true rfl) rfl rfl ?_
        have s2 : Sm 134 142 M1 (wI M1 (134 + j) s (nI 0)) := Sm.w (by omega) (by omega)
        refine inner j s hj (by omega) (fun M3 s3 hrow3 hdone3 => ?_) 3 0 _ (by omega) (by omega) (s1.tr s2) (fun k hk hkn x hx => ?_) (fun x hx => ?_) (wI_at _ _ _ _)
        · refine wp_iinc1 (pc := 97) (L' := [_, _, _, _, _, _]) dX1_countWays_97 rfl rfl rfl ?_
          refine wp_goto (pc := 100) 42 dX1_countWays_100 (by decide) ?_
          exact ih (s + 1) M3 (by omega) (by omega) s3 hrow3 hdone3 _
        · rw [wI_na (by omega)]; exact hrow k hk hkn x hx
        · rw [wI_nk (by omega)]; exact hdone x hx
  have outer : ∀ (k : Nat) (M1 : Mm), k ≤ n → Sm 134 142 M M1 → (∀ i, k ≤ i → i ≤ n → ∀ s, s < 5 → M1.1 (134 + i) s = nI (cwN pe g (n - i) i s)) → ∀ z1 z2, Wp E K mX1_countWays 1 (0, 0) 35 [some (.ref (K.1 + 131)), some (.int (nI n)), some (.int (nI g)), some (.int (nI k - nI 1)), z1, z2] [] 168 M1 0 0 (zV E K (fun M' => Sm 134 142 M M' ∧ ∀ k, k ≤ n → ∀ s, s < 5 → M'.1 (134 + k) s = nI (cwN pe g (n - k) k s))) := by
    intro k
    induction k with
    | zero =>
      intro M1 hk s1 hrow z1 z2
      refine wp_iload_n (pc := 35) dX1_countWays_35 rfl ?_
      refine wp_if_lt (pc := 36) 109 dX1_countWays_36 (by decide) (fun h36 => ?_) (fun h36 => ?_)
      · refine wf_vret (pc := 109) dX1_countWays_109 rfl ?_
        exact ⟨s1, fun i hi s hs => hrow i (by omega) hi s hs⟩
      · exact absurd (show nI 0 - nI 1 < 0 by decide) h36
    | succ k ih =>
      intro M1 hk s1 hrow z1 z2
      rw [show nI (k + 1) - nI 1 = nI k from by rw [pk_sub (by omega), Nat.add_sub_cancel]]
      refine wp_iload_n (pc := 35) dX1_countWays_35 rfl ?_
      refine wp_if_lt (pc := 36) 109 dX1_countWays_36 (by decide) (fun h36 => ?_) (fun h36 => ?_)
      · exact absurd h36 (nI_pos (by omega))
      · refine wp_ic (pc := 39) (x := nI 0) dX1_countWays_39 ic_0 ?_
        refine wp_istore (pc := 40) (L' := [_, _, _, _, _, _]) dX1_countWays_40 (Nat.le_of_ble_eq_true rfl) rfl rfl ?_
        refine mid k (by omega) (fun M3 s3 hrow3 hdone3 z3 z4 => ?_) 5 0 M1 (by omega) (by omega) s1 (fun i hi hin x hx => hrow i (by omega) hin x hx) (fun x hx => absurd hx (by omega)) _
        refine wp_iinc (pc := 103) (L' := [_, _, _, _, _, _]) dX1_countWays_103 rfl rfl rfl ?_
        refine wp_goto (pc := 106) 35 dX1_countWays_106 (by decide) ?_
        rw [m1_eq]
        exact ih M3 (by omega) s3 (fun i hi hin x hx => by rcases Nat.eq_or_lt_of_le hi with rfl | q; exact hdone3 x hx; exact hrow3 i q hin x hx) _ _
  have first : ∀ (q s : Nat) (M1 : Mm), q = 5 - s → s ≤ 5 → Sm 134 142 M M1 → (∀ s', s' < s → M1.1 (134 + n) s' = nI (cwN pe g 0 n s')) → ∀ z1 z2, Wp E K mX1_countWays 1 (0, 0) 2 [some (.ref (K.1 + 131)), some (.int (nI n)), some (.int (nI g)), some (.int (nI s)), z1, z2] [] 168 M1 0 0 (zV E K (fun M' => Sm 134 142 M M' ∧ ∀ k, k ≤ n → ∀ s, s < 5 → M'.1 (134 + k) s = nI (cwN pe g (n - k) k s))) := by
    intro q
    induction q with
    | zero =>
      intro s M1 hq hs s1 hd z1 z2
      refine wp_iload_n (pc := 2) dX1_countWays_2 rfl ?_
      refine wp_ic (pc := 3) (x := nI 5) dX1_countWays_3 ic_5 ?_
      refine wp_icmp_ge (pc := 4) 31 dX1_countWays_4 (by decide) (fun h4 => ?_) (fun h4 => ?_)
      · have e : s = 5 := by omega
        subst e
        refine wp_iload_n (pc := 31) dX1_countWays_31 rfl ?_
        refine wp_ic (pc := 32) (x := nI 1) dX1_countWays_32 ic_1 ?_
        refine wp_isub (pc := 33) dX1_countWays_33 ?_
        refine wp_istore_n (pc := 34) (L' := [_, _, _, _, _, _]) dX1_countWays_34 (Nat.le_of_ble_eq_true rfl) rfl rfl ?_
        refine outer n M1 (Nat.le_refl _) s1 (fun i hi hin x hx => ?_) _ _
        rw [show i = n by omega, Nat.sub_self]
        exact hd x hx
      · exact absurd (nI_le (by omega) (by omega)) h4
    | succ q ih =>
      intro s M1 hq hs s1 hd z1 z2
      refine wp_iload_n (pc := 2) dX1_countWays_2 rfl ?_
      refine wp_ic (pc := 3) (x := nI 5) dX1_countWays_3 ic_5 ?_
      refine wp_icmp_ge (pc := 4) 31 dX1_countWays_4 (by decide) (fun h4 => ?_) (fun h4 => ?_)
      · exact absurd h4 (nI_ge (by omega) (by omega))
      · refine wp_aload_n (pc := 7) dX1_countWays_7 rfl ?_
        refine wf_getR (pc := 8) dX1_countWays_8 fl_X1_17 lk_131 ((s1.rs hR) 131 1 133 rfl) ?_
        refine wp_iload_n (pc := 11) dX1_countWays_11 rfl ?_
        refine wf_aaldA (pc := 12) (j := n) dX1_countWays_12 lk_133 rfl (by omega) (s1.rs hR 133 n _ (rt_ways (by omega))) ?_
        refine wp_iload_n (pc := 13) dX1_countWays_13 rfl ?_
        refine wp_iload_n (pc := 14) dX1_countWays_14 rfl ?_
        refine wp_iload_n (pc := 15) dX1_countWays_15 rfl ?_
        refine wp_icmp_ne (pc := 16) 23 dX1_countWays_16 (by decide) (fun h16 => ?_) (fun h16 => ?_)
        · have h16 : ¬ s = g := fun q => h16 (by rw [q])
          have e2 : cwN pe g 0 n s = 0 := if_neg h16
          refine wp_ic (pc := 23) (x := nI 0) dX1_countWays_23 ic_0 ?_
          refine wp_top (nI (cwN pe g 0 n s)) (by rw [e2]) ?_
          refine wf_iast (pc := 24) (j := s) dX1_countWays_24 (lk_ways _ (by omega)) rfl (by omega) ?_
          refine wp_iinc1 (pc := 25) (L' := [_, _, _, _, _, _]) dX1_countWays_25 rfl rfl rfl ?_
          refine wp_goto (pc := 28) 2 dX1_countWays_28 (by decide) ?_
          refine ih (s + 1) _ (by omega) (by omega) (s1.tr (Sm.w (by omega) (by omega))) (fun x hx => ?_) _ _
          rcases Nat.lt_succ_iff_lt_or_eq.mp hx with q | rfl
          · rw [wI_nk (by omega)]; exact hd x q
          · exact wI_at _ _ _ _
        · have h16 : s = g := (nI_eq (by omega) (by omega)).mp h16
          have e2 : cwN pe g 0 n s = 1 := if_pos h16
          refine wp_ic (pc := 19) (x := nI 1) dX1_countWays_19 ic_1 ?_
          refine wp_goto (pc := 20) 24 dX1_countWays_20 (by decide) ?_
          refine wp_top (nI (cwN pe g 0 n s)) (by rw [e2]) ?_
          refine wf_iast (pc := 24) (j := s) dX1_countWays_24 (lk_ways _ (by omega)) rfl (by omega) ?_
          refine wp_iinc1 (pc := 25) (L' := [_, _, _, _, _, _]) dX1_countWays_25 rfl rfl rfl ?_
          refine wp_goto (pc := 28) 2 dX1_countWays_28 (by decide) ?_
          refine ih (s + 1) _ (by omega) (by omega) (s1.tr (Sm.w (by omega) (by omega))) (fun x hx => ?_) _ _
          rcases Nat.lt_succ_iff_lt_or_eq.mp hx with q | rfl
          · rw [wI_nk (by omega)]; exact hd x q
          · exact wI_at _ _ _ _
  refine wp_ic (pc := 0) (x := nI 0) dX1_countWays_0 ic_0 ?_
  refine wp_istore_n (pc := 1) (L' := [_, _, _, _, _, _]) dX1_countWays_1 (Nat.le_of_ble_eq_true rfl) rfl rfl ?_
  exact first 5 0 M (by omega) (by omega) Sm.rf (fun x hx => absurd hx (by omega)) _ _
