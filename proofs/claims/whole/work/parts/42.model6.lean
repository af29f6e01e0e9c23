theorem rg_inD {x : Int32} {n : Nat} (hn : n ≤ 9999) : rg 0 n x = inD x (n + 1) := by
  unfold rg inD
  have e : nI n < x ↔ nI (n + 1) ≤ x := by
    rw [Int32.lt_iff_toInt_lt, Int32.le_iff_toInt_le, nI_toInt (by omega), nI_toInt (by omega)]
    omega
  rw [decide_eq_decide.mpr e]
  rfl
theorem cm_spans {l : Launch} {K : CtxT} {M : Mm} {s : Sv} (H : XM M s) {a b t : Int32} : Ci l K 1 mX9_spans [.ref (K.1 + 150), .int a, .int b, .int t] M (fun r M' => r = oSpans a b t ∧ XM M' s ∧ Fm M M') := by
  refine ci_of (L := [some (.ref (K.1 + 150)), some (.int a), some (.int b), some (.int t)]) (by decide +kernel) (Nat.le_of_ble_eq_true rfl) rfl rfl (fun E => ?_)
  refine wp_aload_n (pc := 0) dX9_spans_0 rfl ?_
  refine wp_ic (pc := 1) (x := nI 0) dX9_spans_1 ic_0 ?_
  refine wf_putI (pc := 2) dX9_spans_2 fl_X9_66 lk_150 ?_
  have F : Fm M (wI M 150 0 (nI 0)) := Fm.w (by decide)
  have H := H.f (k := 0) (nI 0) (by decide)
  generalize wI M 150 0 (nI 0) = M5 at H F ⊢
  refine wp_iload_n (pc := 5) dX9_spans_5 rfl ?_
  refine wp_i2l (pc := 6) dX9_spans_6 ?_
  refine wp_lconst (pc := 7) dX9_spans_7 rfl ?_
  refine wp_ldc2 (pc := 8) dX9_spans_8 kc_X9_87 ?_
  refine wf_callSi (pc := 11) dX9_spans_11 cl_X9_72 (c_inR 1 9 rfl (by decide)) rfl rfl (Nat.le_of_ble_eq_true rfl) (by decide) ⟨Nat.le_refl _, Nat.le_refl _⟩ (fun r11 M11 q11 => ?_)
  rw [q11.1, q11.2]
  refine wp_if_eq (pc := 14) 41 dX9_spans_14 (by decide) (fun h14 => ?_) (fun h14 => ?_)
  · have h14 := b2i_0 h14
    have e : ¬ (rg 1 9 a = true ∧ rg 1 9 b = true ∧ rg 0 99 t = true) := fun q => by rw [h14] at q; cases q.1
    refine wp_bipush (pc := 41) (x := (-2)) dX9_spans_41 bp_m2 ?_
    refine wf_iret (pc := 43) dX9_spans_43 rfl ?_
    unfold oSpans; rw [if_neg e]
    exact ⟨rfl, H, F⟩
  · have h14 := b2i_1 h14
    refine wp_iload_n (pc := 17) dX9_spans_17 rfl ?_
    refine wp_i2l (pc := 18) dX9_spans_18 ?_
    refine wp_lconst (pc := 19) dX9_spans_19 rfl ?_
    refine wp_ldc2 (pc := 20) dX9_spans_20 kc_X9_87 ?_
    refine wf_callSi (pc := 23) dX9_spans_23 cl_X9_72 (c_inR 1 9 rfl (by decide)) rfl rfl (Nat.le_of_ble_eq_true rfl) (by decide) ⟨Nat.le_refl _, Nat.le_refl _⟩ (fun r23 M23 q23 => ?_)
    rw [q23.1, q23.2]
    refine wp_if_eq (pc := 26) 41 dX9_spans_26 (by decide) (fun h26 => ?_) (fun h26 => ?_)
    · have h26 := b2i_0 h26
      have e : ¬ (rg 1 9 a = true ∧ rg 1 9 b = true ∧ rg 0 99 t = true) := fun q => by rw [h26] at q; cases q.2.1
      refine wp_bipush (pc := 41) (x := (-2)) dX9_spans_41 bp_m2 ?_
      refine wf_iret (pc := 43) dX9_spans_43 rfl ?_
      unfold oSpans; rw [if_neg e]
      exact ⟨rfl, H, F⟩
    · have h26 := b2i_1 h26
      refine wp_iload_n (pc := 29) dX9_spans_29 rfl ?_
      refine wp_i2l (pc := 30) dX9_spans_30 ?_
      refine wp_lconst (pc := 31) dX9_spans_31 rfl ?_
      refine wp_ldc2 (pc := 32) dX9_spans_32 kc_X9_208 ?_
      refine wf_callSi (pc := 35) dX9_spans_35 cl_X9_72 (c_inR 0 99 rfl (by decide)) rfl rfl (Nat.le_of_ble_eq_true rfl) (by decide) ⟨Nat.le_refl _, Nat.le_refl _⟩ (fun r35 M35 q35 => ?_)
      rw [q35.1, q35.2]
      refine wp_if_ne (pc := 38) 44 dX9_spans_38 (by decide) (fun h38 => ?_) (fun h38 => ?_)
      · have h38 := b2i_1 h38
        have e := And.intro h14 (And.intro h26 h38)
        obtain ⟨i, i1, i2, ei⟩ := rg_of h14 (by decide) (by decide)
        obtain ⟨j, j1, j2, ej⟩ := rg_of h26 (by decide) (by decide)
        obtain ⟨k, k1, k2, ek⟩ := rg_of h38 (by decide) (by decide)
        subst ei ej ek
        have m1 : i * k ≤ 9 * 99 := Nat.mul_le_mul i2 k2
        have m2 : i * (k + 1) ≤ 9 * 100 := Nat.mul_le_mul i2 (by omega)
        have m3 := Nat.div_le_self (i * k) (i + j)
        have m4 := Nat.div_le_self (i * (k + 1)) (i + j)
        refine wp_iload_n (pc := 44) dX9_spans_44 rfl ?_
        refine wp_iload_n (pc := 45) dX9_spans_45 rfl ?_
        refine wp_ic (pc := 46) (x := nI 1) dX9_spans_46 ic_1 ?_
        refine wp_iadd (pc := 47) dX9_spans_47 ?_
        refine wp_imul (pc := 48) dX9_spans_48 ?_
        refine wp_iload_n (pc := 49) dX9_spans_49 rfl ?_
        refine wp_iload_n (pc := 50) dX9_spans_50 rfl ?_
        refine wp_iadd (pc := 51) dX9_spans_51 ?_
        refine wp_idivN (pc := 52) dX9_spans_52 (show nI i * (nI k + nI 1) = nI (i * (k + 1)) by rw [nI_add, pk_mul]) (show nI i + nI j = nI (i + j) from nI_add _ _) (by omega) (by omega) (by omega) ?_
        refine wp_iload_n (pc := 53) dX9_spans_53 rfl ?_
        refine wp_iload_n (pc := 54) dX9_spans_54 rfl ?_
        refine wp_imul (pc := 55) dX9_spans_55 ?_
        refine wp_iload_n (pc := 56) dX9_spans_56 rfl ?_
        refine wp_iload_n (pc := 57) dX9_spans_57 rfl ?_
        refine wp_iadd (pc := 58) dX9_spans_58 ?_
        refine wp_idivN (pc := 59) dX9_spans_59 (show nI i * nI k = nI (i * k) by rw [pk_mul]) (show nI i + nI j = nI (i + j) from nI_add _ _) (by omega) (by omega) (by omega) ?_
        refine wp_icmp_le (pc := 60) 67 dX9_spans_60 (by decide) (fun h60 => ?_) (fun h60 => ?_)
        · have e5 : ¬ i * k / (i + j) < i * (k + 1) / (i + j) := fun q => absurd h60 (Int32.not_le.mpr (nI_lt q (by omega)))
          refine wp_ic (pc := 67) (x := nI 1) dX9_spans_67 ic_1 ?_
          refine wf_iret (pc := 68) dX9_spans_68 rfl ?_
          unfold oSpans; rw [if_pos e, nI_cl (by omega), nI_cl (by omega), nI_cl (by omega)]
          first | rw [if_pos e5] | rw [if_neg e5]
          exact ⟨rfl, H, F⟩
        · have e5 : i * k / (i + j) < i * (k + 1) / (i + j) := by rcases Nat.lt_or_ge (i * k / (i + j)) (i * (k + 1) / (i + j)) with q | q; exact q; exact absurd (nI_le q (by omega)) h60
          refine wp_ic (pc := 63) (x := nI 0) dX9_spans_63 ic_0 ?_
          refine wp_goto (pc := 64) 68 dX9_spans_64 (by decide) ?_
          refine wf_iret (pc := 68) dX9_spans_68 rfl ?_
          unfold oSpans; rw [if_pos e, nI_cl (by omega), nI_cl (by omega), nI_cl (by omega)]
          first | rw [if_pos e5] | rw [if_neg e5]
          exact ⟨rfl, H, F⟩
      · have h38 := b2i_0 h38
        have e : ¬ (rg 1 9 a = true ∧ rg 1 9 b = true ∧ rg 0 99 t = true) := fun q => by rw [h38] at q; cases q.2.2
        refine wp_bipush (pc := 41) (x := (-2)) dX9_spans_41 bp_m2 ?_
        refine wf_iret (pc := 43) dX9_spans_43 rfl ?_
        unfold oSpans; rw [if_neg e]
        exact ⟨rfl, H, F⟩
theorem cm_see {l : Launch} {K : CtxT} {M : Mm} {s : Sv} {B : Nat} (H : XM M s) (V : OkV B s) (hB : B ≤ 9999) {y x t : Int32} : Ci l K 2 mX9_see [.ref (K.1 + 150), .int y, .int x, .int t] M (fun r M' => r = (oSee s y x t).1 ∧ XM M' (oSee s y x t).2 ∧ Fm M M') := by
  refine ci_of (L := [some (.ref (K.1 + 150)), some (.int y), some (.int x), some (.int t)]) (by decide +kernel) (Nat.le_of_ble_eq_true rfl) rfl rfl (fun E => ?_)
  have h6 := V.s.1
  refine wp_aload_n (pc := 0) dX9_see_0 rfl ?_
  refine wp_ic (pc := 1) (x := nI 0) dX9_see_1 ic_0 ?_
  refine wf_putI (pc := 2) dX9_see_2 fl_X9_66 lk_150 ?_
  have F : Fm M (wI M 150 0 (nI 0)) := Fm.w (by decide)
  have H := H.f (k := 0) (nI 0) (by decide)
  generalize wI M 150 0 (nI 0) = M5 at H F ⊢
  refine wp_aload_n (pc := 5) dX9_see_5 rfl ?_
  refine wp_iload_n (pc := 6) dX9_see_6 rfl ?_
  refine wf_callVi (pc := 7) dX9_see_7 cl_X9_161 (c_noMan H.r V.l.N H.w) lk_150 rfl rfl rfl rfl (Nat.le_of_ble_eq_true rfl) (by decide) ⟨Nat.le_refl _, Nat.le_refl _⟩ (fun r7 M7 q7 => ?_)
  rw [q7.1, q7.2]
  refine wp_if_eq (pc := 10) 15 dX9_see_10 (by decide) (fun h10 => ?_) (fun h10 => ?_)
  · have h10 := b2i_0 h10
    have h10 : inD y (lM s.Λ) = true := by simpa using h10
    obtain ⟨m, hm, em⟩ := inD_of (by assumption) (show lM s.Λ < 2 ^ 31 by have := V.l.N.2.1; omega)
    have hm4 : m < 5 := Nat.lt_of_lt_of_le hm V.l.N.2.1
    subst em
    refine wp_iload_n (pc := 15) dX9_see_15 rfl ?_
    refine wp_i2l (pc := 16) dX9_see_16 ?_
    refine wp_lconst (pc := 17) dX9_see_17 rfl ?_
    refine wp_ldc2 (pc := 18) dX9_see_18 kc_X9_193 ?_
    refine wf_callSi (pc := 21) dX9_see_21 cl_X9_72 (c_inR 0 4 rfl (by decide)) rfl rfl (Nat.le_of_ble_eq_true rfl) (by decide) ⟨Nat.le_refl _, Nat.le_refl _⟩ (fun r21 M21 q21 => ?_)
    rw [q21.1, q21.2, rg_inD (by decide)]
    refine wp_if_eq (pc := 24) 39 dX9_see_24 (by decide) (fun h24 => ?_) (fun h24 => ?_)
    · have h24 := b2i_0 h24
      have h24 : inD x 5 = false := h24
      have e : ¬ (inD x 5 = true ∧ inD t 12 = true) := fun q => by rw [h24] at q; cases q.1
      refine wp_bipush (pc := 39) (x := (-2)) dX9_see_39 bp_m2 ?_
      refine wf_iret (pc := 41) dX9_see_41 rfl ?_
      unfold oSee; rw [if_pos h10, if_neg e]
      exact ⟨rfl, H, F⟩
    · have h24 := b2i_1 h24
      have h24 : inD x 5 = true := h24
      refine wp_iload_n (pc := 27) dX9_see_27 rfl ?_
      refine wp_i2l (pc := 28) dX9_see_28 ?_
      refine wp_lconst (pc := 29) dX9_see_29 rfl ?_
      refine wp_ldc2 (pc := 30) dX9_see_30 kc_X9_210 ?_
      refine wf_callSi (pc := 33) dX9_see_33 cl_X9_72 (c_inR 0 11 rfl (by decide)) rfl rfl (Nat.le_of_ble_eq_true rfl) (by decide) ⟨Nat.le_refl _, Nat.le_refl _⟩ (fun r33 M33 q33 => ?_)
      rw [q33.1, q33.2, rg_inD (by decide)]
      refine wp_if_ne (pc := 36) 42 dX9_see_36 (by decide) (fun h36 => ?_) (fun h36 => ?_)
      · have h36 := b2i_1 h36
        have h36 : inD t 12 = true := h36
        have e : inD x 5 = true ∧ inD t 12 = true := ⟨h24, h36⟩
        obtain ⟨a, ha, ea⟩ := inD_of h24 (by decide)
        obtain ⟨b, hb, eb⟩ := inD_of h36 (by decide)
        subst ea eb
        refine wp_aload_n (pc := 42) dX9_see_42 rfl ?_
        refine wf_getI (pc := 43) dX9_see_43 fl_X9_150 lk_150 ?_
        rw [H.s.1]
        refine wp_bipush (pc := 46) (x := nI 6) dX9_see_46 bp_6 ?_
        refine wp_icmp_ne (pc := 48) 54 dX9_see_48 (by decide) (fun h48 => ?_) (fun h48 => ?_)
        · have e4 : ¬ 6 ≤ s.σ.1 := fun q => h48 (by rw [show s.σ.1 = 6 by omega])
          refine wp_aload_n (pc := 54) dX9_see_54 rfl ?_
          refine wf_getR (pc := 55) dX9_see_55 fl_X9_51 lk_150 (H.r 150 23 163 rfl) ?_
          refine wp_aload_n (pc := 58) dX9_see_58 rfl ?_
          refine wf_getI (pc := 59) dX9_see_59 fl_X9_150 lk_150 ?_
          refine wp_iload_n (pc := 62) dX9_see_62 rfl ?_
          refine wf_iast (pc := 63) (j := s.σ.1) dX9_see_63 lk_163 H.s.1 (by omega) ?_
          refine wp_aload_n (pc := 64) dX9_see_64 rfl ?_
          refine wf_getR (pc := 65) dX9_see_65 fl_X9_54 lk_150 (H.r 150 24 164 rfl) ?_
          refine wp_aload_n (pc := 68) dX9_see_68 rfl ?_
          refine wf_getI (pc := 69) dX9_see_69 fl_X9_150 lk_150 ?_
          refine wp_iload_n (pc := 72) dX9_see_72 rfl ?_
          refine wf_iast (pc := 73) (j := s.σ.1) dX9_see_73 lk_164 H.s.1 (by omega) ?_
          refine wp_aload_n (pc := 74) dX9_see_74 rfl ?_
          refine wf_getR (pc := 75) dX9_see_75 fl_X9_57 lk_150 (H.r 150 25 165 rfl) ?_
          refine wp_aload_n (pc := 78) dX9_see_78 rfl ?_
          refine wf_getI (pc := 79) dX9_see_79 fl_X9_150 lk_150 ?_
          refine wp_iload_n (pc := 82) dX9_see_82 rfl ?_
          refine wf_iast (pc := 83) (j := s.σ.1) dX9_see_83 lk_165 H.s.1 (by omega) ?_
          refine wp_aload_n (pc := 84) dX9_see_84 rfl ?_
          refine wp_dup (pc := 85) dX9_see_85 rfl ?_
          refine wf_getI (pc := 86) dX9_see_86 fl_X9_150 lk_150 ?_
          refine wp_ic (pc := 89) (x := nI 1) dX9_see_89 ic_1 ?_
          refine wp_iadd (pc := 90) dX9_see_90 ?_
          refine wp_top (nI (s.σ.1 + 1)) (by rw [show (wI (wI (wI M5 163 s.σ.1 (nI m)) 164 s.σ.1 (nI a)) 165 s.σ.1 (nI b)).1 150 22 = nI s.σ.1 from H.s.1]; exact nI_1 _) ?_
          refine wf_putI (pc := 91) dX9_see_91 fl_X9_150 lk_150 ?_
          refine wp_aload_n (pc := 94) dX9_see_94 rfl ?_
          refine wf_getI (pc := 95) dX9_see_95 fl_X9_150 lk_150 ?_
          refine wp_top (nI (s.σ.1 + 1)) (wI_at _ _ _ _) ?_
          refine wf_iret (pc := 98) dX9_see_98 rfl ?_
          unfold oSee; rw [if_pos h10, if_pos e, if_neg e4, nI_cl (by omega), nI_cl (by omega), nI_cl (by omega)]
          have F := (((F.tr (Fm.w (a := 163) (k := s.σ.1) (x := nI m) (by decide))).tr (Fm.w (a := 164) (k := s.σ.1) (x := nI a) (by decide))).tr (Fm.w (a := 165) (k := s.σ.1) (x := nI b) (by decide))).tr (Fm.w (a := 150) (k := 22) (x := nI (s.σ.1 + 1)) (by decide))
          obtain ⟨g1, g2, g4, g5, g6, g7, ⟨g8, g9⟩, g10⟩ := H
          refine ⟨rfl, ⟨g1, g2, g4, g5, g6, g7, ⟨wI_at _ _ _ _, fun i hi => ?_⟩, g10⟩, F⟩
          have hi : i < s.σ.1 + 1 := hi
          show _ = nI (if i = s.σ.1 then m else s.σ.2.1 i) ∧ _ = nI (if i = s.σ.1 then a else s.σ.2.2.1 i) ∧ _ = nI (if i = s.σ.1 then b else s.σ.2.2.2 i)
          by_cases e9 : i = s.σ.1
          · subst e9; simp [wI]
          · have w := g9 i (by omega)
            simp only [if_neg e9]
            simp only [wI]
            simpa [e9] using w
        · have e4 : 6 ≤ s.σ.1 := by have := (nI_eq (by omega) (by decide)).mp h48; omega
          refine wp_bipush (pc := 51) (x := (-4)) dX9_see_51 bp_m4 ?_
          refine wf_iret (pc := 53) dX9_see_53 rfl ?_
          unfold oSee; rw [if_pos h10, if_pos e, if_pos e4]
          exact ⟨rfl, H, F⟩
      · have h36 := b2i_0 h36
        have h36 : inD t 12 = false := h36
        have e : ¬ (inD x 5 = true ∧ inD t 12 = true) := fun q => by rw [h36] at q; cases q.2
        refine wp_bipush (pc := 39) (x := (-2)) dX9_see_39 bp_m2 ?_
        refine wf_iret (pc := 41) dX9_see_41 rfl ?_
        unfold oSee; rw [if_pos h10, if_neg e]
        exact ⟨rfl, H, F⟩
  · have h10 := b2i_1 h10
    have h10 : inD y (lM s.Λ) = false := by simpa using h10
    refine wp_ic (pc := 13) (x := (-1)) dX9_see_13 ic_m1 ?_
    refine wf_iret (pc := 14) dX9_see_14 rfl ?_
    unfold oSee; rw [if_neg (by rw [h10]; decide)]
    exact ⟨rfl, H, F⟩
theorem cm_seed {l : Launch} {K : CtxT} {M : Mm} {s : Sv} {B : Nat} (H : XM M s) (V : OkV B s) (hB : B ≤ 9999) {x : Int64} : Cl l K 0 mX9_seed [.ref (K.1 + 150), .long x] M (fun r M' => r = s.e ∧ XM M' (s.sd x) ∧ Fm M M') := by
  refine cl_of (L := [some (.ref (K.1 + 150)), some (.long x), none, none, none]) (by decide +kernel) (Nat.le_of_ble_eq_true rfl) rfl rfl (fun E => ?_)
  refine wp_aload_n (pc := 0) dX9_seed_0 rfl ?_
  refine wp_ic (pc := 1) (x := nI 0) dX9_seed_1 ic_0 ?_
  refine wf_putI (pc := 2) dX9_seed_2 fl_X9_66 lk_150 ?_
  have F : Fm M (wI M 150 0 (nI 0)) := Fm.w (by decide)
  have H := H.f (k := 0) (nI 0) (by decide)
  generalize wI M 150 0 (nI 0) = M5 at H F ⊢
  refine wp_aload_n (pc := 5) dX9_seed_5 rfl ?_
  refine wf_getJ (pc := 6) dX9_seed_6 fl_X9_229 lk_150 ?_
  rw [H.e]
  refine wp_lstore_n (pc := 9) (L' := [_, _, _, _, _]) dX9_seed_9 (Nat.le_of_ble_eq_true rfl) rfl rfl ?_
  refine wp_aload_n (pc := 10) dX9_seed_10 rfl ?_
  refine wp_lload_n (pc := 11) dX9_seed_11 rfl ?_
  refine wf_putJ (pc := 12) dX9_seed_12 fl_X9_229 lk_150 ?_
  refine wp_lload_n (pc := 15) dX9_seed_15 rfl ?_
  refine wf_lret (pc := 16) dX9_seed_16 rfl ?_
  obtain ⟨g1, g2, g4, g5, g6, g7, g8, g10⟩ := H
  refine ⟨rfl, ⟨fun a k b q => g1 a k b q, g2, g4, g5, g6, g7, g8, ?_⟩, ?_⟩
  · show (wJ M5 150 26 x).2.1 150 26 = x
    simp [wJ]
  · exact F.tr ⟨fun a ha k => ⟨rfl, by simp [wJ, show a ≠ 150 by omega]⟩, rfl⟩
