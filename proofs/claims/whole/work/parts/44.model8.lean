theorem cm_lead {l : Launch} {K : CtxT} {M : Mm} {s : Sv} {B : Nat} (H : XM M s) (V : OkV B s) (hB : B ≤ 9999) {y x : Int32} : Ci l K 2 mX9_lead [.ref (K.1 + 150), .int y, .int x] M (fun r M' => r = (oLead s y x).1 ∧ XM M' (oLead s y x).2 ∧ Fm M M') := by
  refine ci_of (L := [some (.ref (K.1 + 150)), some (.int y), some (.int x)]) (by decide +kernel) (Nat.le_of_ble_eq_true rfl) rfl rfl (fun E => ?_)
  refine wp_aload_n (pc := 0) dX9_lead_0 rfl ?_
  refine wp_ic (pc := 1) (x := nI 0) dX9_lead_1 ic_0 ?_
  refine wf_putI (pc := 2) dX9_lead_2 fl_X9_66 lk_150 ?_
  have F : Fm M (wI M 150 0 (nI 0)) := Fm.w (by decide)
  have H := H.f (k := 0) (nI 0) (by decide)
  generalize wI M 150 0 (nI 0) = M5 at H F ⊢
  refine wp_aload_n (pc := 5) dX9_lead_5 rfl ?_
  refine wp_iload_n (pc := 6) dX9_lead_6 rfl ?_
  refine wf_callVi (pc := 7) dX9_lead_7 cl_X9_153 (c_noDog H.r V.l.N H.w) lk_150 rfl rfl rfl rfl (Nat.le_of_ble_eq_true rfl) (by decide) ⟨Nat.le_refl _, Nat.le_refl _⟩ (fun r7 M7 q7 => ?_)
  rw [q7.1, q7.2]
  refine wp_if_eq (pc := 10) 15 dX9_lead_10 (by decide) (fun h10 => ?_) (fun h10 => ?_)
  · have h10 := b2i_0 h10
    have h10 : inD y (lD s.Λ) = true := by simpa using h10
    obtain ⟨d, hd, ed⟩ := inD_of (by assumption) (show lD s.Λ < 2 ^ 31 by have := V.l.N.1; omega)
    have hd4 : d < 4 := Nat.lt_of_lt_of_le hd V.l.N.1
    subst ed
    refine wp_iload_n (pc := 15) dX9_lead_15 rfl ?_
    refine wp_i2l (pc := 16) dX9_lead_16 ?_
    refine wp_lconst (pc := 17) dX9_lead_17 rfl ?_
    refine wp_ldc2 (pc := 18) dX9_lead_18 kc_X9_164 ?_
    refine wf_callSi (pc := 21) dX9_lead_21 cl_X9_72 (c_inR 1 2 rfl (by decide)) rfl rfl (Nat.le_of_ble_eq_true rfl) (by decide) ⟨Nat.le_refl _, Nat.le_refl _⟩ (fun r21 M21 q21 => ?_)
    rw [q21.1, q21.2]
    refine wp_if_ne (pc := 24) 30 dX9_lead_24 (by decide) (fun h24 => ?_) (fun h24 => ?_)
    · have h24 := b2i_1 h24
      obtain ⟨v, v1, v2, ev⟩ := rg_of h24 (by decide) (by decide)
      subst ev
      refine wp_aload_n (pc := 30) dX9_lead_30 rfl ?_
      refine wf_callVv (pc := 31) dX9_lead_31 cl_X9_166 (c_note H V hB) lk_150 rfl rfl rfl rfl (Nat.le_of_ble_eq_true rfl) (by decide) ⟨Nat.le_refl _, Nat.le_refl _⟩ (fun M31 q31 => ?_)
      have F := F.tr q31.2
      have H := q31.1
      refine wp_aload_n (pc := 34) dX9_lead_34 rfl ?_
      refine wp_aload_n (pc := 35) dX9_lead_35 rfl ?_
      refine wf_getR (pc := 36) dX9_lead_36 fl_X9_35 lk_150 (H.r 150 16 158 rfl) ?_
      refine wp_iload_n (pc := 39) dX9_lead_39 rfl ?_
      refine wp_iload_n (pc := 40) dX9_lead_40 rfl ?_
      refine wf_callVv (pc := 41) dX9_lead_41 cl_X9_169 (c_goLead H.r V.l.N H.w (p := 158) rfl H.p (by decide) V.p hd (by omega)) lk_150 rfl rfl rfl rfl (Nat.le_of_ble_eq_true rfl) (by decide) ⟨Nat.le_refl _, Nat.le_refl _⟩ (fun M41 q41 => ?_)
      have F := F.tr (q41.2.fm (by decide))
      have H := H.page s.h q41.2 q41.1
      refine wp_aload_n (pc := 44) dX9_lead_44 rfl ?_
      refine wf_getR (pc := 45) dX9_lead_45 fl_X9_35 lk_150 (H.r 150 16 158 rfl) ?_
      refine wp_iload_n (pc := 48) dX9_lead_48 rfl ?_
      refine wf_iald (pc := 49) (j := d) dX9_lead_49 lk_158 rfl (by omega) ?_
      refine wf_iret (pc := 50) dX9_lead_50 rfl ?_
      unfold oLead; rw [if_pos h10, nI_cl (by omega)]
      rcases (show v = 1 ∨ v = 2 by omega) with rfl | rfl
      · rw [if_pos rfl]; exact ⟨H.p.at (by omega), H, F⟩
      · rw [if_neg (by decide), if_pos rfl]; exact ⟨H.p.at (by omega), H, F⟩
    · have h24 := b2i_0 h24
      refine wp_bipush (pc := 27) (x := (-2)) dX9_lead_27 bp_m2 ?_
      refine wf_iret (pc := 29) dX9_lead_29 rfl ?_
      unfold oLead; rw [if_pos h10, if_neg (fun q => by rw [q] at h24; exact absurd h24 (by decide)), if_neg (fun q => by rw [q] at h24; exact absurd h24 (by decide))]
      exact ⟨rfl, H, F⟩
  · have h10 := b2i_1 h10
    have h10 : inD y (lD s.Λ) = false := by simpa using h10
    refine wp_ic (pc := 13) (x := (-1)) dX9_lead_13 ic_m1 ?_
    refine wf_iret (pc := 14) dX9_lead_14 rfl ?_
    unfold oLead; rw [if_neg (by rw [h10]; decide)]
    exact ⟨rfl, H, F⟩
theorem cm_leash {l : Launch} {K : CtxT} {M : Mm} {s : Sv} {B : Nat} (H : XM M s) (V : OkV B s) (hB : B ≤ 9999) {y : Int32} : Ci l K 2 mX9_leash [.ref (K.1 + 150), .int y] M (fun r M' => r = (oLeash s y).1 ∧ XM M' (oLeash s y).2 ∧ Fm M M') := by
  refine ci_of (L := [some (.ref (K.1 + 150)), some (.int y)]) (by decide +kernel) (Nat.le_of_ble_eq_true rfl) rfl rfl (fun E => ?_)
  refine wp_aload_n (pc := 0) dX9_leash_0 rfl ?_
  refine wp_ic (pc := 1) (x := nI 0) dX9_leash_1 ic_0 ?_
  refine wf_putI (pc := 2) dX9_leash_2 fl_X9_66 lk_150 ?_
  have F : Fm M (wI M 150 0 (nI 0)) := Fm.w (by decide)
  have H := H.f (k := 0) (nI 0) (by decide)
  generalize wI M 150 0 (nI 0) = M5 at H F ⊢
  refine wp_aload_n (pc := 5) dX9_leash_5 rfl ?_
  refine wp_iload_n (pc := 6) dX9_leash_6 rfl ?_
  refine wf_callVi (pc := 7) dX9_leash_7 cl_X9_161 (c_noMan H.r V.l.N H.w) lk_150 rfl rfl rfl rfl (Nat.le_of_ble_eq_true rfl) (by decide) ⟨Nat.le_refl _, Nat.le_refl _⟩ (fun r7 M7 q7 => ?_)
  rw [q7.1, q7.2]
  refine wp_if_eq (pc := 10) 15 dX9_leash_10 (by decide) (fun h10 => ?_) (fun h10 => ?_)
  · have h10 := b2i_0 h10
    have h10 : inD y (lM s.Λ) = true := by simpa using h10
    obtain ⟨m, hm, em⟩ := inD_of (by assumption) (show lM s.Λ < 2 ^ 31 by have := V.l.N.2.1; omega)
    have hm4 : m < 5 := Nat.lt_of_lt_of_le hm V.l.N.2.1
    subst em
    refine wp_aload_n (pc := 15) dX9_leash_15 rfl ?_
    refine wf_getR (pc := 16) dX9_leash_16 fl_X9_35 lk_150 (H.r 150 16 158 rfl) ?_
    refine wp_bipush (pc := 19) (x := nI 8) dX9_leash_19 bp_8 ?_
    refine wp_iload_n (pc := 21) dX9_leash_21 rfl ?_
    refine wp_iadd (pc := 22) dX9_leash_22 ?_
    refine wf_iald (pc := 23) (j := (8 + m)) dX9_leash_23 lk_158 (nI_add _ _) (by omega) ?_
    rw [show M5.1 158 (8 + m) = s.P (8 + m) from H.p.at (by omega)]
    refine wp_bipush (pc := 24) (x := (-9)) dX9_leash_24 bp_m9 ?_
    refine wp_icmp_eq (pc := 26) 41 dX9_leash_26 (by decide) (fun h26 => ?_) (fun h26 => ?_)
    · refine wp_bipush (pc := 41) (x := (-3)) dX9_leash_41 bp_m3 ?_
      refine wf_iret (pc := 43) dX9_leash_43 rfl ?_
      unfold oLeash oLeashN; rw [if_pos h10, nI_cl (by omega), if_pos (by first | exact Or.inl h26 | exact Or.inr (Int32.not_le.mp h38))]
      exact ⟨rfl, H, F⟩
    · refine wp_aload_n (pc := 29) dX9_leash_29 rfl ?_
      refine wf_getR (pc := 30) dX9_leash_30 fl_X9_35 lk_150 (H.r 150 16 158 rfl) ?_
      refine wp_bipush (pc := 33) (x := nI 19) dX9_leash_33 bp_19 ?_
      refine wp_iload_n (pc := 35) dX9_leash_35 rfl ?_
      refine wp_iadd (pc := 36) dX9_leash_36 ?_
      refine wf_iald (pc := 37) (j := (19 + m)) dX9_leash_37 lk_158 (nI_add _ _) (by omega) ?_
      rw [show M5.1 158 (19 + m) = s.P (19 + m) from H.p.at (by omega)]
      refine wp_if_le (pc := 38) 44 dX9_leash_38 (by decide) (fun h38 => ?_) (fun h38 => ?_)
      · refine wp_aload_n (pc := 44) dX9_leash_44 rfl ?_
        refine wf_callVv (pc := 45) dX9_leash_45 cl_X9_166 (c_note H V hB) lk_150 rfl rfl rfl rfl (Nat.le_of_ble_eq_true rfl) (by decide) ⟨Nat.le_refl _, Nat.le_refl _⟩ (fun M45 q45 => ?_)
        have F := F.tr q45.2
        have H := q45.1
        refine wp_aload_n (pc := 48) dX9_leash_48 rfl ?_
        refine wf_getR (pc := 49) dX9_leash_49 fl_X9_35 lk_150 (H.r 150 16 158 rfl) ?_
        refine wp_bipush (pc := 52) (x := nI 18) dX9_leash_52 bp_18 ?_
        refine wp_dup2 (pc := 54) dX9_leash_54 rfl rfl ?_
        refine wf_iald (pc := 55) (j := 18) dX9_leash_55 lk_158 rfl (by omega) ?_
        rw [show M45.1 158 18 = s.P 18 from H.p.at (by omega)]
        refine wp_ic (pc := 56) (x := nI 1) dX9_leash_56 ic_1 ?_
        refine wp_iload_n (pc := 57) dX9_leash_57 rfl ?_
        refine wp_ishl (pc := 58) dX9_leash_58 ?_
        refine wp_ixor (pc := 59) dX9_leash_59 ?_
        refine wf_iast (pc := 60) (j := 18) dX9_leash_60 lk_158 rfl (by omega) ?_
        have q61 : Sm 158 159 M45 (wI M45 158 18 (s.P 18 ^^^ bit m)) := Sm.w (by omega) (by omega)
        have F := F.tr (q61.fm (by decide))
        have H := H.page s.h q61 (H.p.w 18 _)
        refine wp_aload_n (pc := 61) dX9_leash_61 rfl ?_
        refine wf_getR (pc := 62) dX9_leash_62 fl_X9_35 lk_150 (H.r 150 16 158 rfl) ?_
        refine wp_bipush (pc := 65) (x := nI 18) dX9_leash_65 bp_18 ?_
        refine wf_iald (pc := 67) (j := 18) dX9_leash_67 lk_158 rfl (by omega) ?_
        rw [show (wI M45 158 18 (s.P 18 ^^^ bit m)).1 158 18 = s.P 18 ^^^ bit m from wI_at _ _ _ _]
        refine wp_iload_n (pc := 68) dX9_leash_68 rfl ?_
        refine wp_ishr (pc := 69) dX9_leash_69 ?_
        refine wp_ic (pc := 70) (x := nI 1) dX9_leash_70 ic_1 ?_
        refine wp_iand (pc := 71) dX9_leash_71 ?_
        refine wf_iret (pc := 72) dX9_leash_72 rfl ?_
        unfold oLeash oLeashN; rw [if_pos h10, nI_cl (by omega), if_neg (by rintro (q | q); exact h26 q; exact Int32.not_le.mpr q h38)]
        exact ⟨bat_01 hm4, H, F⟩
      · refine wp_bipush (pc := 41) (x := (-3)) dX9_leash_41 bp_m3 ?_
        refine wf_iret (pc := 43) dX9_leash_43 rfl ?_
        unfold oLeash oLeashN; rw [if_pos h10, nI_cl (by omega), if_pos (by first | exact Or.inl h26 | exact Or.inr (Int32.not_le.mp h38))]
        exact ⟨rfl, H, F⟩
  · have h10 := b2i_1 h10
    have h10 : inD y (lM s.Λ) = false := by simpa using h10
    refine wp_ic (pc := 13) (x := (-1)) dX9_leash_13 ic_m1 ?_
    refine wf_iret (pc := 14) dX9_leash_14 rfl ?_
    unfold oLeash; rw [if_neg (by rw [h10]; decide)]
    exact ⟨rfl, H, F⟩
theorem cm_give {l : Launch} {K : CtxT} {M : Mm} {s : Sv} {B : Nat} (H : XM M s) (V : OkV B s) (hB : B ≤ 9999) {y x : Int32} : Ci l K 2 mX9_give [.ref (K.1 + 150), .int y, .int x] M (fun r M' => r = (oGive s y x).1 ∧ XM M' (oGive s y x).2 ∧ Fm M M') := by
  refine ci_of (L := [some (.ref (K.1 + 150)), some (.int y), some (.int x), none]) (by decide +kernel) (Nat.le_of_ble_eq_true rfl) rfl rfl (fun E => ?_)
  refine wp_aload_n (pc := 0) dX9_give_0 rfl ?_
  refine wp_ic (pc := 1) (x := nI 0) dX9_give_1 ic_0 ?_
  refine wf_putI (pc := 2) dX9_give_2 fl_X9_66 lk_150 ?_
  have F : Fm M (wI M 150 0 (nI 0)) := Fm.w (by decide)
  have H := H.f (k := 0) (nI 0) (by decide)
  generalize wI M 150 0 (nI 0) = M5 at H F ⊢
  refine wp_aload_n (pc := 5) dX9_give_5 rfl ?_
  refine wp_iload_n (pc := 6) dX9_give_6 rfl ?_
  refine wf_callVi (pc := 7) dX9_give_7 cl_X9_161 (c_noMan H.r V.l.N H.w) lk_150 rfl rfl rfl rfl (Nat.le_of_ble_eq_true rfl) (by decide) ⟨Nat.le_refl _, Nat.le_refl _⟩ (fun r7 M7 q7 => ?_)
  rw [q7.1, q7.2]
  refine wp_if_ne (pc := 10) 21 dX9_give_10 (by decide) (fun h10 => ?_) (fun h10 => ?_)
  · have h10 := b2i_1 h10
    have h10 : inD y (lM s.Λ) = false := by simpa using h10
    refine wp_ic (pc := 21) (x := (-1)) dX9_give_21 ic_m1 ?_
    refine wf_iret (pc := 22) dX9_give_22 rfl ?_
    unfold oGive; rw [if_neg (by rintro ⟨q1, q2⟩; first | (rw [h10] at q1; cases q1; done) | (rw [h18] at q2; cases q2; done))]
    exact ⟨rfl, H, F⟩
  · have h10 := b2i_0 h10
    have h10 : inD y (lM s.Λ) = true := by simpa using h10
    obtain ⟨m, hm, em⟩ := inD_of (by assumption) (show lM s.Λ < 2 ^ 31 by have := V.l.N.2.1; omega)
    have hm4 : m < 5 := Nat.lt_of_lt_of_le hm V.l.N.2.1
    subst em
    refine wp_aload_n (pc := 13) dX9_give_13 rfl ?_
    refine wp_iload_n (pc := 14) dX9_give_14 rfl ?_
    refine wf_callVi (pc := 15) dX9_give_15 cl_X9_153 (c_noDog H.r V.l.N H.w) lk_150 rfl rfl rfl rfl (Nat.le_of_ble_eq_true rfl) (by decide) ⟨Nat.le_refl _, Nat.le_refl _⟩ (fun r15 M15 q15 => ?_)
    rw [q15.1, q15.2]
    refine wp_if_eq (pc := 18) 23 dX9_give_18 (by decide) (fun h18 => ?_) (fun h18 => ?_)
    · have h18 := b2i_0 h18
      have h18 : inD x (lD s.Λ) = true := by simpa using h18
      obtain ⟨d, hd, ed⟩ := inD_of (by assumption) (show lD s.Λ < 2 ^ 31 by have := V.l.N.1; omega)
      have hd4 : d < 4 := Nat.lt_of_lt_of_le hd V.l.N.1
      subst ed
      refine wp_aload_n (pc := 23) dX9_give_23 rfl ?_
      refine wf_getR (pc := 24) dX9_give_24 fl_X9_35 lk_150 (H.r 150 16 158 rfl) ?_
      refine wp_bipush (pc := 27) (x := nI 8) dX9_give_27 bp_8 ?_
      refine wp_iload_n (pc := 29) dX9_give_29 rfl ?_
      refine wp_iadd (pc := 30) dX9_give_30 ?_
      refine wf_iald (pc := 31) (j := (8 + m)) dX9_give_31 lk_158 (nI_add _ _) (by omega) ?_
      rw [show M5.1 158 (8 + m) = s.P (8 + m) from H.p.at (by omega)]
      refine wp_istore_n (pc := 32) (L' := [_, _, _, _]) dX9_give_32 (Nat.le_of_ble_eq_true rfl) rfl rfl ?_
      refine wp_aload_n (pc := 33) dX9_give_33 rfl ?_
      refine wf_getR (pc := 34) dX9_give_34 fl_X9_35 lk_150 (H.r 150 16 158 rfl) ?_
      refine wp_bipush (pc := 37) (x := nI 19) dX9_give_37 bp_19 ?_
      refine wp_iload_n (pc := 39) dX9_give_39 rfl ?_
      refine wp_iadd (pc := 40) dX9_give_40 ?_
      refine wf_iald (pc := 41) (j := (19 + m)) dX9_give_41 lk_158 (nI_add _ _) (by omega) ?_
      rw [show M5.1 158 (19 + m) = s.P (19 + m) from H.p.at (by omega)]
      refine wp_if_gt (pc := 42) 68 dX9_give_42 (by decide) (fun h42 => ?_) (fun h42 => ?_)
      · refine wp_bipush (pc := 68) (x := (-3)) dX9_give_68 bp_m3 ?_
        refine wf_iret (pc := 70) dX9_give_70 rfl ?_
        unfold oGive oGiveN; rw [if_pos ⟨h10, h18⟩, nI_cl (by omega), nI_cl (by omega), if_pos (by first | exact Or.inl h42 | exact Or.inr (Or.inl h47) | exact Or.inr (Or.inr h65))]
        exact ⟨rfl, H, F⟩
      · refine wp_iload_n (pc := 45) dX9_give_45 rfl ?_
        refine wp_iload_n (pc := 46) dX9_give_46 rfl ?_
        refine wp_icmp_eq (pc := 47) 68 dX9_give_47 (by decide) (fun h47 => ?_) (fun h47 => ?_)
        · refine wp_bipush (pc := 68) (x := (-3)) dX9_give_68 bp_m3 ?_
          refine wf_iret (pc := 70) dX9_give_70 rfl ?_
          unfold oGive oGiveN; rw [if_pos ⟨h10, h18⟩, nI_cl (by omega), nI_cl (by omega), if_pos (by first | exact Or.inl h42 | exact Or.inr (Or.inl h47) | exact Or.inr (Or.inr h65))]
          exact ⟨rfl, H, F⟩
        · refine wp_aload_n (pc := 50) dX9_give_50 rfl ?_
          refine wf_getR (pc := 51) dX9_give_51 fl_X9_35 lk_150 (H.r 150 16 158 rfl) ?_
          refine wp_bipush (pc := 54) (x := nI 13) dX9_give_54 bp_13 ?_
          refine wp_iload_n (pc := 56) dX9_give_56 rfl ?_
          refine wp_iadd (pc := 57) dX9_give_57 ?_
          refine wf_iald (pc := 58) (j := (13 + m)) dX9_give_58 lk_158 (nI_add _ _) (by omega) ?_
          rw [show M5.1 158 (13 + m) = s.P (13 + m) from H.p.at (by omega)]
          refine wp_aload_n (pc := 59) dX9_give_59 rfl ?_
          refine wf_getR (pc := 60) dX9_give_60 fl_X9_35 lk_150 (H.r 150 16 158 rfl) ?_
          refine wp_iload_n (pc := 63) dX9_give_63 rfl ?_
          refine wf_iald (pc := 64) (j := d) dX9_give_64 lk_158 rfl (by omega) ?_
          rw [show M5.1 158 (d) = s.P (d) from H.p.at (by omega)]
          refine wp_icmp_eq (pc := 65) 71 dX9_give_65 (by decide) (fun h65 => ?_) (fun h65 => ?_)
          · refine wp_aload_n (pc := 71) dX9_give_71 rfl ?_
            refine wp_aload_n (pc := 72) dX9_give_72 rfl ?_
            refine wf_getR (pc := 73) dX9_give_73 fl_X9_35 lk_150 (H.r 150 16 158 rfl) ?_
            refine wp_iload_n (pc := 76) dX9_give_76 rfl ?_
            refine wf_callVi (pc := 77) dX9_give_77 cl_X9_157 (c_keeps H.r V.l.N H.w (p := 158) rfl H.p (by omega)) lk_150 rfl rfl rfl rfl (Nat.le_of_ble_eq_true rfl) (by decide) ⟨Nat.le_refl _, Nat.le_refl _⟩ (fun r77 M77 q77 => ?_)
            rw [q77.1, q77.2]
            refine wf_callSi (pc := 80) dX9_give_80 cl_X9_173 (c_many (lt32 (kepN_lt s.P _ _) V.l.N.2.1)) rfl rfl (Nat.le_of_ble_eq_true rfl) (by decide) ⟨Nat.le_refl _, Nat.le_refl _⟩ (fun r80 M80 q80 => ?_)
            rw [q80.1, q80.2]
            refine wp_aload_n (pc := 83) dX9_give_83 rfl ?_
            refine wf_getR (pc := 84) dX9_give_84 fl_X9_20 lk_150 (H.r 150 8 153 rfl) ?_
            refine wp_ic (pc := 87) (x := nI 4) dX9_give_87 ic_4 ?_
            refine wp_iload_n (pc := 88) dX9_give_88 rfl ?_
            refine wp_imul (pc := 89) dX9_give_89 ?_
            refine wp_ic (pc := 90) (x := nI 2) dX9_give_90 ic_2 ?_
            refine wp_iadd (pc := 91) dX9_give_91 ?_
            refine wf_iald (pc := 92) (j := (4 * d + 2)) dX9_give_92 lk_153 (by rw [pk_mul, nI_add]) (by omega) ?_
            rw [show M5.1 153 (4 * d + 2) = lRm s.Λ d from (H.w.2.2.2.2.1 d hd).2.1]
            refine wp_icmp_lt (pc := 93) 99 dX9_give_93 (by decide) (fun h93 => ?_) (fun h93 => ?_)
            · refine wp_aload_n (pc := 99) dX9_give_99 rfl ?_
              refine wf_callVv (pc := 100) dX9_give_100 cl_X9_166 (c_note H V hB) lk_150 rfl rfl rfl rfl (Nat.le_of_ble_eq_true rfl) (by decide) ⟨Nat.le_refl _, Nat.le_refl _⟩ (fun M100 q100 => ?_)
              have F := F.tr q100.2
              have H := q100.1
              refine wp_aload_n (pc := 103) dX9_give_103 rfl ?_
              refine wf_getR (pc := 104) dX9_give_104 fl_X9_35 lk_150 (H.r 150 16 158 rfl) ?_
              refine wp_bipush (pc := 107) (x := nI 8) dX9_give_107 bp_8 ?_
              refine wp_iload_n (pc := 109) dX9_give_109 rfl ?_
              refine wp_iadd (pc := 110) dX9_give_110 ?_
              refine wp_iload_n (pc := 111) dX9_give_111 rfl ?_
              refine wf_iast (pc := 112) (j := (8 + m)) dX9_give_112 lk_158 (nI_add _ _) (by omega) ?_
              have q113 : Sm 158 159 M100 (wI M100 158 (8 + m) (nI d)) := Sm.w (by omega) (by omega)
              have F := F.tr (q113.fm (by decide))
              have H := H.page s.h q113 (H.p.w (8 + m) _)
              refine wp_iload_n (pc := 113) dX9_give_113 rfl ?_
              refine wf_iret (pc := 114) dX9_give_114 rfl ?_
              unfold oGive oGiveN; rw [if_pos ⟨h10, h18⟩, nI_cl (by omega), nI_cl (by omega), if_neg (by rintro (q | q | q); exact h42 q; exact h47 q; exact q h65), if_pos h93]
              exact ⟨rfl, H, F⟩
            · refine wp_bipush (pc := 96) (x := (-4)) dX9_give_96 bp_m4 ?_
              refine wf_iret (pc := 98) dX9_give_98 rfl ?_
              unfold oGive oGiveN; rw [if_pos ⟨h10, h18⟩, nI_cl (by omega), nI_cl (by omega), if_neg (by rintro (q | q | q); exact h42 q; exact h47 q; exact q h65), if_neg h93]
              exact ⟨rfl, H, F⟩
          · refine wp_bipush (pc := 68) (x := (-3)) dX9_give_68 bp_m3 ?_
            refine wf_iret (pc := 70) dX9_give_70 rfl ?_
            unfold oGive oGiveN; rw [if_pos ⟨h10, h18⟩, nI_cl (by omega), nI_cl (by omega), if_pos (by first | exact Or.inl h42 | exact Or.inr (Or.inl h47) | exact Or.inr (Or.inr h65))]
            exact ⟨rfl, H, F⟩
    · have h18 := b2i_1 h18
      have h18 : inD x (lD s.Λ) = false := by simpa using h18
      refine wp_ic (pc := 21) (x := (-1)) dX9_give_21 ic_m1 ?_
      refine wf_iret (pc := 22) dX9_give_22 rfl ?_
      unfold oGive; rw [if_neg (by rintro ⟨q1, q2⟩; first | (rw [h10] at q1; cases q1; done) | (rw [h18] at q2; cases q2; done))]
      exact ⟨rfl, H, F⟩
theorem cm_hour {l : Launch} {K : CtxT} {M : Mm} {s : Sv} {B : Nat} (H : XM M s) (V : OkV B s) (hB : B ≤ 9999) : Ci l K 2 mX9_hour [.ref (K.1 + 150)] M (fun r M' => r = (oHour s).1 ∧ XM M' (oHour s).2 ∧ Fm M M') := by
  refine ci_of (L := [some (.ref (K.1 + 150))]) (by decide +kernel) (Nat.le_of_ble_eq_true rfl) rfl rfl (fun E => ?_)
  refine wp_aload_n (pc := 0) dX9_hour_0 rfl ?_
  refine wp_ic (pc := 1) (x := nI 0) dX9_hour_1 ic_0 ?_
  refine wf_putI (pc := 2) dX9_hour_2 fl_X9_66 lk_150 ?_
  have F : Fm M (wI M 150 0 (nI 0)) := Fm.w (by decide)
  have H := H.f (k := 0) (nI 0) (by decide)
  generalize wI M 150 0 (nI 0) = M5 at H F ⊢
  refine wp_aload_n (pc := 5) dX9_hour_5 rfl ?_
  refine wf_callVv (pc := 6) dX9_hour_6 cl_X9_166 (c_note H V hB) lk_150 rfl rfl rfl rfl (Nat.le_of_ble_eq_true rfl) (by decide) ⟨Nat.le_refl _, Nat.le_refl _⟩ (fun M6 q6 => ?_)
  have F := F.tr q6.2
  have H := q6.1
  refine wp_aload_n (pc := 9) dX9_hour_9 rfl ?_
  refine wp_aload_n (pc := 10) dX9_hour_10 rfl ?_
  refine wf_getR (pc := 11) dX9_hour_11 fl_X9_35 lk_150 (H.r 150 16 158 rfl) ?_
  refine wp_aload_n (pc := 14) dX9_hour_14 rfl ?_
  refine wf_getI (pc := 15) dX9_hour_15 fl_X9_13 lk_150 ?_
  rw [H.w.2.2.1]
  refine wp_ic (pc := 18) (x := nI 0) dX9_hour_18 ic_0 ?_
  refine wf_callVi (pc := 19) dX9_hour_19 cl_X9_176 (c_goHourR H.r V.l.N H.w (p := 158) rfl H.p (by decide) V.p (by have := V.h; omega)) lk_150 rfl rfl rfl rfl (Nat.le_of_ble_eq_true rfl) (by decide) ⟨Nat.le_refl _, Nat.le_refl _⟩ (fun r19 M19 q19 => ?_)
  have F := F.tr (q19.2.2.fm (by decide))
  have H := H.page (s.h + 1) q19.2.2 q19.2.1
  refine wf_iret (pc := 22) dX9_hour_22 rfl ?_
  exact ⟨q19.1, H, F⟩
