theorem cm_dog {l : Launch} {K : CtxT} {M : Mm} {s : Sv} {B : Nat} (H : XM M s) (V : OkV B s) (hB : B ≤ 9999) {y x : Int32} : Ci l K 2 mX9_dog [.ref (K.1 + 150), .int y, .int x] M (fun r M' => r = oDog s y x ∧ XM M' s ∧ Fm M M') := by
  refine ci_of (L := [some (.ref (K.1 + 150)), some (.int y), some (.int x)]) (by decide +kernel) (Nat.le_of_ble_eq_true rfl) rfl rfl (fun E => ?_)
  refine wp_aload_n (pc := 0) dX9_dog_0 rfl ?_
  refine wp_ic (pc := 1) (x := nI 0) dX9_dog_1 ic_0 ?_
  refine wf_putI (pc := 2) dX9_dog_2 fl_X9_66 lk_150 ?_
  have F : Fm M (wI M 150 0 (nI 0)) := Fm.w (by decide)
  have H := H.f (k := 0) (nI 0) (by decide)
  generalize wI M 150 0 (nI 0) = M5 at H F ⊢
  refine wp_aload_n (pc := 5) dX9_dog_5 rfl ?_
  refine wp_iload_n (pc := 6) dX9_dog_6 rfl ?_
  refine wf_callVi (pc := 7) dX9_dog_7 cl_X9_153 (c_noDog H.r V.l.N H.w) lk_150 rfl rfl rfl rfl (Nat.le_of_ble_eq_true rfl) (by decide) ⟨Nat.le_refl _, Nat.le_refl _⟩ (fun r7 M7 q7 => ?_)
  rw [q7.1, q7.2]
  refine wp_if_eq (pc := 10) 15 dX9_dog_10 (by decide) (fun h10 => ?_) (fun h10 => ?_)
  · have h10 := b2i_0 h10
    have h10 : inD y (lD s.Λ) = true := by simpa using h10
    obtain ⟨d, hd, ed⟩ := inD_of (by assumption) (show lD s.Λ < 2 ^ 31 by have := V.l.N.1; omega)
    have hd4 : d < 4 := Nat.lt_of_lt_of_le hd V.l.N.1
    subst ed
    refine wp_iload_n (pc := 15) dX9_dog_15 rfl ?_
    by_cases e0 : x = nI 0
    · refine wp_tabIn (pc := 16) 56 dX9_dog_16 (by rw [e0]; decide) (by rw [e0]; decide) (by rw [e0]; rfl) (by decide) ?_
      refine wp_aload_n (pc := 56) dX9_dog_56 rfl ?_
      refine wf_getR (pc := 57) dX9_dog_57 fl_X9_35 lk_150 (H.r 150 16 158 rfl) ?_
      refine wp_iload_n (pc := 60) dX9_dog_60 rfl ?_
      refine wf_iald (pc := 61) (j := d) dX9_dog_61 lk_158 rfl (by omega) ?_
      refine wf_iret (pc := 62) dX9_dog_62 rfl ?_
      refine ⟨?_, H, F⟩
      unfold oDog; rw [if_pos h10, nI_cl (by omega)]
      unfold oDogN; rw [if_pos e0]
      exact (show M5.1 158 (d) = s.P (d) by have := H.p (d) (by omega); rwa [Nat.zero_add] at this)
    by_cases e1 : x = nI 1
    · refine wp_tabIn (pc := 16) 63 dX9_dog_16 (by rw [e1]; decide) (by rw [e1]; decide) (by rw [e1]; rfl) (by decide) ?_
      refine wp_aload_n (pc := 63) dX9_dog_63 rfl ?_
      refine wf_getR (pc := 64) dX9_dog_64 fl_X9_20 lk_150 (H.r 150 8 153 rfl) ?_
      refine wp_ic (pc := 67) (x := nI 4) dX9_dog_67 ic_4 ?_
      refine wp_iload_n (pc := 68) dX9_dog_68 rfl ?_
      refine wp_imul (pc := 69) dX9_dog_69 ?_
      refine wp_iload_n (pc := 70) dX9_dog_70 rfl ?_
      refine wp_iadd (pc := 71) dX9_dog_71 ?_
      refine wf_iald (pc := 72) (j := (4 * d + (if x = nI 1 then 1 else 2))) dX9_dog_72 lk_153 (show nI 4 * nI d + x = nI (4 * d + (if x = nI 1 then 1 else 2)) by first | (rw [if_pos e1, pk_mul, e1, nI_add]; done) | (rw [if_neg e1, pk_mul, e2, nI_add]; done)) (by split <;> omega) ?_
      refine wf_iret (pc := 73) dX9_dog_73 rfl ?_
      refine ⟨?_, H, F⟩
      unfold oDog; rw [if_pos h10, nI_cl (by omega)]
      first | (rw [show (4 * d + (if x = nI 1 then 1 else 2)) = 4 * d + 1 by rw [if_pos e1]]; unfold oDogN; rw [if_neg e0, if_pos e1]; exact (H.w.2.2.2.2.1 d hd).1) | (rw [show (4 * d + (if x = nI 1 then 1 else 2)) = 4 * d + 2 by rw [if_neg e1]]; unfold oDogN; rw [if_neg e0, if_neg e1, if_pos e2]; exact (H.w.2.2.2.2.1 d hd).2.1)
    by_cases e2 : x = nI 2
    · refine wp_tabIn (pc := 16) 63 dX9_dog_16 (by rw [e2]; decide) (by rw [e2]; decide) (by rw [e2]; rfl) (by decide) ?_
      refine wp_aload_n (pc := 63) dX9_dog_63 rfl ?_
      refine wf_getR (pc := 64) dX9_dog_64 fl_X9_20 lk_150 (H.r 150 8 153 rfl) ?_
      refine wp_ic (pc := 67) (x := nI 4) dX9_dog_67 ic_4 ?_
      refine wp_iload_n (pc := 68) dX9_dog_68 rfl ?_
      refine wp_imul (pc := 69) dX9_dog_69 ?_
      refine wp_iload_n (pc := 70) dX9_dog_70 rfl ?_
      refine wp_iadd (pc := 71) dX9_dog_71 ?_
      refine wf_iald (pc := 72) (j := (4 * d + (if x = nI 1 then 1 else 2))) dX9_dog_72 lk_153 (show nI 4 * nI d + x = nI (4 * d + (if x = nI 1 then 1 else 2)) by first | (rw [if_pos e1, pk_mul, e1, nI_add]; done) | (rw [if_neg e1, pk_mul, e2, nI_add]; done)) (by split <;> omega) ?_
      refine wf_iret (pc := 73) dX9_dog_73 rfl ?_
      refine ⟨?_, H, F⟩
      unfold oDog; rw [if_pos h10, nI_cl (by omega)]
      first | (rw [show (4 * d + (if x = nI 1 then 1 else 2)) = 4 * d + 1 by rw [if_pos e1]]; unfold oDogN; rw [if_neg e0, if_pos e1]; exact (H.w.2.2.2.2.1 d hd).1) | (rw [show (4 * d + (if x = nI 1 then 1 else 2)) = 4 * d + 2 by rw [if_neg e1]]; unfold oDogN; rw [if_neg e0, if_neg e1, if_pos e2]; exact (H.w.2.2.2.2.1 d hd).2.1)
    by_cases e3 : x = nI 3
    · refine wp_tabIn (pc := 16) 74 dX9_dog_16 (by rw [e3]; decide) (by rw [e3]; decide) (by rw [e3]; rfl) (by decide) ?_
      refine wp_aload_n (pc := 74) dX9_dog_74 rfl ?_
      refine wp_aload_n (pc := 75) dX9_dog_75 rfl ?_
      refine wf_getR (pc := 76) dX9_dog_76 fl_X9_35 lk_150 (H.r 150 16 158 rfl) ?_
      refine wp_iload_n (pc := 79) dX9_dog_79 rfl ?_
      refine wf_callVi (pc := 80) dX9_dog_80 cl_X9_157 (c_keeps H.r V.l.N H.w (p := 158) rfl H.p (by omega)) lk_150 rfl rfl rfl rfl (Nat.le_of_ble_eq_true rfl) (by decide) ⟨Nat.le_refl _, Nat.le_refl _⟩ (fun r80 M80 q80 => ?_)
      rw [q80.1, q80.2]
      refine wf_iret (pc := 83) dX9_dog_83 rfl ?_
      refine ⟨?_, H, F⟩
      unfold oDog; rw [if_pos h10, nI_cl (by omega)]
      unfold oDogN; rw [if_neg e0, if_neg e1, if_neg e2, if_pos e3]
    by_cases e4 : x = nI 4
    · refine wp_tabIn (pc := 16) 84 dX9_dog_16 (by rw [e4]; decide) (by rw [e4]; decide) (by rw [e4]; rfl) (by decide) ?_
      refine wp_aload_n (pc := 84) dX9_dog_84 rfl ?_
      refine wf_getR (pc := 85) dX9_dog_85 fl_X9_35 lk_150 (H.r 150 16 158 rfl) ?_
      refine wp_ic (pc := 88) (x := nI 4) dX9_dog_88 ic_4 ?_
      refine wp_iload_n (pc := 89) dX9_dog_89 rfl ?_
      refine wp_iadd (pc := 90) dX9_dog_90 ?_
      refine wf_iald (pc := 91) (j := (4 + d)) dX9_dog_91 lk_158 (nI_add _ _) (by omega) ?_
      refine wf_iret (pc := 92) dX9_dog_92 rfl ?_
      refine ⟨?_, H, F⟩
      unfold oDog; rw [if_pos h10, nI_cl (by omega)]
      unfold oDogN; rw [if_neg e0, if_neg e1, if_neg e2, if_neg e3, if_pos e4]
      exact (show M5.1 158 (4 + d) = s.P (4 + d) by have := H.p (4 + d) (by omega); rwa [Nat.zero_add] at this)
    by_cases e5 : x = nI 5
    · refine wp_tabIn (pc := 16) 93 dX9_dog_16 (by rw [e5]; decide) (by rw [e5]; decide) (by rw [e5]; rfl) (by decide) ?_
      refine wp_aload_n (pc := 93) dX9_dog_93 rfl ?_
      refine wf_getR (pc := 94) dX9_dog_94 fl_X9_20 lk_150 (H.r 150 8 153 rfl) ?_
      refine wp_ic (pc := 97) (x := nI 4) dX9_dog_97 ic_4 ?_
      refine wp_iload_n (pc := 98) dX9_dog_98 rfl ?_
      refine wp_imul (pc := 99) dX9_dog_99 ?_
      refine wp_ic (pc := 100) (x := nI 3) dX9_dog_100 ic_3 ?_
      refine wp_iadd (pc := 101) dX9_dog_101 ?_
      refine wf_iald (pc := 102) (j := (4 * d + 3)) dX9_dog_102 lk_153 (by rw [pk_mul, nI_add]) (by omega) ?_
      refine wf_iret (pc := 103) dX9_dog_103 rfl ?_
      refine ⟨?_, H, F⟩
      unfold oDog; rw [if_pos h10, nI_cl (by omega)]
      unfold oDogN; rw [if_neg e0, if_neg e1, if_neg e2, if_neg e3, if_neg e4, if_pos e5]
      exact (H.w.2.2.2.2.1 d hd).2.2
    have eN : ∀ i, i ≤ 5 → ¬ x = nI i := by
      intro i hi
      have : i = 0 ∨ i = 1 ∨ i = 2 ∨ i = 3 ∨ i = 4 ∨ i = 5 := by omega
      rcases this with rfl | rfl | rfl | rfl | rfl | rfl
      · exact e0
      · exact e1
      · exact e2
      · exact e3
      · exact e4
      · exact e5
    refine wp_tabOut (pc := 16) 104 dX9_dog_16 (tab_out (by decide) eN) (by decide) ?_
    refine wp_bipush (pc := 104) (x := (-2)) dX9_dog_104 bp_m2 ?_
    refine wf_iret (pc := 106) dX9_dog_106 rfl ?_
    refine ⟨?_, H, F⟩
    unfold oDog; rw [if_pos h10, nI_cl (by omega)]
    unfold oDogN; rw [if_neg e0, if_neg e1, if_neg e2, if_neg e3, if_neg e4, if_neg e5]
  · have h10 := b2i_1 h10
    have h10 : inD y (lD s.Λ) = false := by simpa using h10
    refine wp_ic (pc := 13) (x := (-1)) dX9_dog_13 ic_m1 ?_
    refine wf_iret (pc := 14) dX9_dog_14 rfl ?_
    refine ⟨?_, H, F⟩
    unfold oDog; rw [h10]; rfl
theorem bat_01 {x : Int32} {m : Nat} (hm : m < 5) : bat x m = nI (if bat x m = nI 1 then 1 else 0) := by
  by_cases e : bat x m = nI 1
  · rw [if_pos e, e]
  · rw [if_neg e]
    apply b_ext
    intro i hi
    have h1 : ∀ i, i < 32 → bt (nI 1) i = decide (i = 0) := by decide +kernel
    rw [show nI 0 = 0 from rfl, b_0]
    show bt ((x >>> (nI m &&& 31)) &&& nI 1) i = false
    rw [b_and, h1 i hi]
    by_cases q : i = 0
    · subst q
      have : ¬ bt (x >>> (nI m &&& 31)) 0 = true := fun w => e (and_one.mpr w)
      simpa using this
    · simp [q]
theorem cm_man {l : Launch} {K : CtxT} {M : Mm} {s : Sv} {B : Nat} (H : XM M s) (V : OkV B s) (hB : B ≤ 9999) {y x : Int32} : Ci l K 2 mX9_man [.ref (K.1 + 150), .int y, .int x] M (fun r M' => r = oMan s y x ∧ XM M' s ∧ Fm M M') := by
  refine ci_of (L := [some (.ref (K.1 + 150)), some (.int y), some (.int x)]) (by decide +kernel) (Nat.le_of_ble_eq_true rfl) rfl rfl (fun E => ?_)
  refine wp_aload_n (pc := 0) dX9_man_0 rfl ?_
  refine wp_ic (pc := 1) (x := nI 0) dX9_man_1 ic_0 ?_
  refine wf_putI (pc := 2) dX9_man_2 fl_X9_66 lk_150 ?_
  have F : Fm M (wI M 150 0 (nI 0)) := Fm.w (by decide)
  have H := H.f (k := 0) (nI 0) (by decide)
  generalize wI M 150 0 (nI 0) = M5 at H F ⊢
  refine wp_aload_n (pc := 5) dX9_man_5 rfl ?_
  refine wp_iload_n (pc := 6) dX9_man_6 rfl ?_
  refine wf_callVi (pc := 7) dX9_man_7 cl_X9_161 (c_noMan H.r V.l.N H.w) lk_150 rfl rfl rfl rfl (Nat.le_of_ble_eq_true rfl) (by decide) ⟨Nat.le_refl _, Nat.le_refl _⟩ (fun r7 M7 q7 => ?_)
  rw [q7.1, q7.2]
  refine wp_if_eq (pc := 10) 15 dX9_man_10 (by decide) (fun h10 => ?_) (fun h10 => ?_)
  · have h10 := b2i_0 h10
    have h10 : inD y (lM s.Λ) = true := by simpa using h10
    obtain ⟨m, hm, em⟩ := inD_of (by assumption) (show lM s.Λ < 2 ^ 31 by have := V.l.N.2.1; omega)
    have hm4 : m < 5 := Nat.lt_of_lt_of_le hm V.l.N.2.1
    subst em
    refine wp_iload_n (pc := 15) dX9_man_15 rfl ?_
    by_cases e0 : x = nI 0
    · refine wp_tabIn (pc := 16) 52 dX9_man_16 (by rw [e0]; decide) (by rw [e0]; decide) (by rw [e0]; rfl) (by decide) ?_
      refine wp_aload_n (pc := 52) dX9_man_52 rfl ?_
      refine wf_getR (pc := 53) dX9_man_53 fl_X9_35 lk_150 (H.r 150 16 158 rfl) ?_
      refine wp_bipush (pc := 56) (x := nI 8) dX9_man_56 bp_8 ?_
      refine wp_iload_n (pc := 58) dX9_man_58 rfl ?_
      refine wp_iadd (pc := 59) dX9_man_59 ?_
      refine wf_iald (pc := 60) (j := (8 + m)) dX9_man_60 lk_158 (nI_add _ _) (by omega) ?_
      refine wf_iret (pc := 61) dX9_man_61 rfl ?_
      refine ⟨?_, H, F⟩
      unfold oMan; rw [if_pos h10, nI_cl (by omega)]
      unfold oManN; rw [if_pos e0]
      exact (show M5.1 158 (8 + m) = s.P (8 + m) by have := H.p (8 + m) (by omega); rwa [Nat.zero_add] at this)
    by_cases e1 : x = nI 1
    · refine wp_tabIn (pc := 16) 62 dX9_man_16 (by rw [e1]; decide) (by rw [e1]; decide) (by rw [e1]; rfl) (by decide) ?_
      refine wp_aload_n (pc := 62) dX9_man_62 rfl ?_
      refine wf_getR (pc := 63) dX9_man_63 fl_X9_35 lk_150 (H.r 150 16 158 rfl) ?_
      refine wp_bipush (pc := 66) (x := nI 13) dX9_man_66 bp_13 ?_
      refine wp_iload_n (pc := 68) dX9_man_68 rfl ?_
      refine wp_iadd (pc := 69) dX9_man_69 ?_
      refine wf_iald (pc := 70) (j := (13 + m)) dX9_man_70 lk_158 (nI_add _ _) (by omega) ?_
      refine wf_iret (pc := 71) dX9_man_71 rfl ?_
      refine ⟨?_, H, F⟩
      unfold oMan; rw [if_pos h10, nI_cl (by omega)]
      unfold oManN; rw [if_neg e0, if_pos e1]
      exact (show M5.1 158 (13 + m) = s.P (13 + m) by have := H.p (13 + m) (by omega); rwa [Nat.zero_add] at this)
    by_cases e2 : x = nI 2
    · refine wp_tabIn (pc := 16) 72 dX9_man_16 (by rw [e2]; decide) (by rw [e2]; decide) (by rw [e2]; rfl) (by decide) ?_
      refine wp_aload_n (pc := 72) dX9_man_72 rfl ?_
      refine wf_getR (pc := 73) dX9_man_73 fl_X9_23 lk_150 (H.r 150 9 154 rfl) ?_
      refine wp_ic (pc := 76) (x := nI 3) dX9_man_76 ic_3 ?_
      refine wp_iload_n (pc := 77) dX9_man_77 rfl ?_
      refine wp_imul (pc := 78) dX9_man_78 ?_
      refine wp_ic (pc := 79) (x := nI 2) dX9_man_79 ic_2 ?_
      refine wp_iadd (pc := 80) dX9_man_80 ?_
      refine wf_iald (pc := 81) (j := (3 * m + 2)) dX9_man_81 lk_154 (by rw [pk_mul, nI_add]) (by omega) ?_
      refine wf_iret (pc := 82) dX9_man_82 rfl ?_
      refine ⟨?_, H, F⟩
      unfold oMan; rw [if_pos h10, nI_cl (by omega)]
      unfold oManN; rw [if_neg e0, if_neg e1, if_pos e2]
      exact H.w.2.2.2.2.2 m hm
    by_cases e3 : x = nI 3
    · refine wp_tabIn (pc := 16) 83 dX9_man_16 (by rw [e3]; decide) (by rw [e3]; decide) (by rw [e3]; rfl) (by decide) ?_
      refine wp_aload_n (pc := 83) dX9_man_83 rfl ?_
      refine wf_getR (pc := 84) dX9_man_84 fl_X9_35 lk_150 (H.r 150 16 158 rfl) ?_
      refine wp_bipush (pc := 87) (x := nI 18) dX9_man_87 bp_18 ?_
      refine wf_iald (pc := 89) (j := 18) dX9_man_89 lk_158 rfl (by omega) ?_
      refine wp_iload_n (pc := 90) dX9_man_90 rfl ?_
      refine wp_ishr (pc := 91) dX9_man_91 ?_
      refine wp_ic (pc := 92) (x := nI 1) dX9_man_92 ic_1 ?_
      refine wp_iand (pc := 93) dX9_man_93 ?_
      refine wf_iret (pc := 94) dX9_man_94 rfl ?_
      refine ⟨?_, H, F⟩
      unfold oMan; rw [if_pos h10, nI_cl (by omega)]
      unfold oManN; rw [if_neg e0, if_neg e1, if_neg e2, if_pos e3]
      rw [← (show M5.1 158 (18) = s.P (18) by have := H.p (18) (by omega); rwa [Nat.zero_add] at this)]
      exact bat_01 hm4
    by_cases e4 : x = nI 4
    · refine wp_tabIn (pc := 16) 95 dX9_man_16 (by rw [e4]; decide) (by rw [e4]; decide) (by rw [e4]; rfl) (by decide) ?_
      refine wp_aload_n (pc := 95) dX9_man_95 rfl ?_
      refine wf_getR (pc := 96) dX9_man_96 fl_X9_35 lk_150 (H.r 150 16 158 rfl) ?_
      refine wp_bipush (pc := 99) (x := nI 19) dX9_man_99 bp_19 ?_
      refine wp_iload_n (pc := 101) dX9_man_101 rfl ?_
      refine wp_iadd (pc := 102) dX9_man_102 ?_
      refine wf_iald (pc := 103) (j := (19 + m)) dX9_man_103 lk_158 (nI_add _ _) (by omega) ?_
      refine wf_iret (pc := 104) dX9_man_104 rfl ?_
      refine ⟨?_, H, F⟩
      unfold oMan; rw [if_pos h10, nI_cl (by omega)]
      unfold oManN; rw [if_neg e0, if_neg e1, if_neg e2, if_neg e3, if_pos e4]
      exact (show M5.1 158 (19 + m) = s.P (19 + m) by have := H.p (19 + m) (by omega); rwa [Nat.zero_add] at this)
    have eN : ∀ i, i ≤ 4 → ¬ x = nI i := by
      intro i hi
      have : i = 0 ∨ i = 1 ∨ i = 2 ∨ i = 3 ∨ i = 4 := by omega
      rcases this with rfl | rfl | rfl | rfl | rfl
      · exact e0
      · exact e1
      · exact e2
      · exact e3
      · exact e4
    refine wp_tabOut (pc := 16) 105 dX9_man_16 (tab_out (by decide) eN) (by decide) ?_
    refine wp_bipush (pc := 105) (x := (-2)) dX9_man_105 bp_m2 ?_
    refine wf_iret (pc := 107) dX9_man_107 rfl ?_
    refine ⟨?_, H, F⟩
    unfold oMan; rw [if_pos h10, nI_cl (by omega)]
    unfold oManN; rw [if_neg e0, if_neg e1, if_neg e2, if_neg e3, if_neg e4]
  · have h10 := b2i_1 h10
    have h10 : inD y (lM s.Λ) = false := by simpa using h10
    refine wp_ic (pc := 13) (x := (-1)) dX9_man_13 ic_m1 ?_
    refine wf_iret (pc := 14) dX9_man_14 rfl ?_
    refine ⟨?_, H, F⟩
    unfold oMan; rw [h10]; rfl
theorem MT.w {M : Mm} {p : Nat} {P : Pg} (h : MT M p 0 P) (k : Nat) (x : Int32) : MT (wI M p k x) p 0 (upd P k x) := fun j hj => by
  rw [Nat.zero_add]
  by_cases e : j = k
  · subst e; rw [wI_at]; simp [upd]
  · rw [wI_nk e]; simp only [upd, if_neg e]
    have := h j hj
    rwa [Nat.zero_add] at this
theorem MT.at {M : Mm} {p : Nat} {P : Pg} (h : MT M p 0 P) {j : Nat} (hj : j < 25) : M.1 p j = P j := by
  have := h j hj
  rwa [Nat.zero_add] at this
theorem MT.congr {M : Mm} {p o : Nat} {P Q : Pg} (h : MT M p o P) (e : ∀ j, j < 25 → Q j = P j) : MT M p o Q := fun j hj => (h j hj).trans (e j hj).symm

theorem c_goLead {l : Launch} {K : CtxT} {M : Mm} {Λ : Lw} (hR : RS M) (hL : OkN Λ) (hw : XW M Λ) {p : Nat} (hpl : lk p = (9, 25)) {P : Pg} (hP : MT M p 0 P) (hp9 : 154 < p) {h d v : Nat} (hO : OkP Λ P h) (hd : d < lD Λ) (hv : v < 3) : Cv l K 0 mX9_goLead [.ref (K.1 + 150), .ref (K.1 + p), .int (nI d), .int (nI v)] M (fun M' => MT M' p 0 (goP Λ P d v) ∧ Sm p (p + 1) M M') := by
  refine cv_of (L := [some (.ref (K.1 + 150)), some (.ref (K.1 + p)), some (.int (nI d)), some (.int (nI v)), none]) (by decide +kernel) (Nat.le_of_ble_eq_true rfl) rfl rfl (fun E => ?_)
  have hM := hL.2.1
  have hD := hL.1
  obtain ⟨g1, g2⟩ := sN_dog hO hd
  have loop : ∀ (n m : Nat) (M1 : Mm), n = lM Λ - m → m ≤ lM Λ → MT M1 p 0 (goPn P d (stN (sN P d) v) m) → Sm p (p + 1) M M1 → Wp E K mX9_goLead 0 (0, 0) 31 [some (.ref (K.1 + 150)), some (.ref (K.1 + p)), some (.int (nI d)), some (.int (nI v)), some (.int (nI m))] [] 168 M1 0 0 (zV E K (fun M' => MT M' p 0 (goP Λ P d v) ∧ Sm p (p + 1) M M')) := by
    intro n
    induction n with
    | zero =>
      intro m M1 hn hm hd1 s1
      refine wp_iload (pc := 31) dX9_goLead_31 rfl ?_
      refine wp_aload_n (pc := 33) dX9_goLead_33 rfl ?_
      refine wf_getI (pc := 34) dX9_goLead_34 fl_X9_76 lk_150 ?_
      rw [show M1.1 150 5 = nI (lM Λ) from (s1.2 150 (by omega) 5).trans hw.2.1]
      refine wp_icmp_ge (pc := 37) 77 dX9_goLead_37 (by decide) (fun h37 => ?_) (fun h37 => ?_)
      · have e : m = lM Λ := by omega
        subst e
        refine wf_vret (pc := 77) dX9_goLead_77 rfl ?_
        exact ⟨hd1, s1⟩
      · exact absurd (nI_le (by omega) (by omega)) h37
    | succ n ih =>
      intro m M1 hn hm hd1 s1
      refine wp_iload (pc := 31) dX9_goLead_31 rfl ?_
      refine wp_aload_n (pc := 33) dX9_goLead_33 rfl ?_
      refine wf_getI (pc := 34) dX9_goLead_34 fl_X9_76 lk_150 ?_
      rw [show M1.1 150 5 = nI (lM Λ) from (s1.2 150 (by omega) 5).trans hw.2.1]
      refine wp_icmp_ge (pc := 37) 77 dX9_goLead_37 (by decide) (fun h37 => ?_) (fun h37 => ?_)
      · exact absurd h37 (nI_ge (by omega) (by omega))
      · refine wp_aload_n (pc := 40) dX9_goLead_40 rfl ?_
        refine wp_bipush (pc := 41) (x := nI 8) dX9_goLead_41 bp_8 ?_
        refine wp_iload (pc := 43) dX9_goLead_43 rfl ?_
        refine wp_iadd (pc := 45) dX9_goLead_45 ?_
        refine wf_iald (pc := 46) (j := (8 + m)) dX9_goLead_46 hpl (nI_add _ _) (by omega) ?_
        rw [show M1.1 p (8 + m) = P (8 + m) from (hd1.at (by omega)).trans (by unfold goPn; rw [if_neg (by omega), if_neg (by omega)])]
        refine wp_iload_n (pc := 47) dX9_goLead_47 rfl ?_
        refine wp_icmp_ne (pc := 48) 71 dX9_goLead_48 (by decide) (fun h48 => ?_) (fun h48 => ?_)
        · have hc : ¬ (P (8 + m) = nI d ∧ ¬ 0 < P (19 + m)) := fun q => h48 q.1
          refine wp_iinc1 (pc := 71) (L' := [_, _, _, _, _]) dX9_goLead_71 rfl rfl rfl ?_
          refine wp_goto (pc := 74) 31 dX9_goLead_74 (by decide) ?_
          first | (exact ih (m + 1) M1 (by omega) (by omega) (hd1.congr (fun j hj => by rw [goPn_no hc])) s1; done) | exact ih (m + 1) _ (by omega) (by omega) ((hd1.w (13 + m) (nI (stN (sN P d) v))).congr (fun j hj => by rw [goPn_yes (by omega) hc])) (s1.tr (Sm.w (by omega) (by omega)))
        · obtain ⟨z, z3, ez⟩ := (hO.2.2.1 m (by omega)).2.2.1
          refine wp_aload_n (pc := 51) dX9_goLead_51 rfl ?_
          refine wp_bipush (pc := 52) (x := nI 19) dX9_goLead_52 bp_19 ?_
          refine wp_iload (pc := 54) dX9_goLead_54 rfl ?_
          refine wp_iadd (pc := 56) dX9_goLead_56 ?_
          refine wf_iald (pc := 57) (j := (19 + m)) dX9_goLead_57 hpl (nI_add _ _) (by omega) ?_
          rw [show M1.1 p (19 + m) = P (19 + m) from (hd1.at (by omega)).trans (by unfold goPn; rw [if_neg (by omega), if_neg (by omega)])]
          refine wp_if_ne (pc := 58) 71 dX9_goLead_58 (by decide) (fun h58 => ?_) (fun h58 => ?_)
          · have hc : ¬ (P (8 + m) = nI d ∧ ¬ 0 < P (19 + m)) := fun q => q.2 (by rw [ez]; exact nI_lt (show 0 < z by rcases Nat.eq_zero_or_pos z with w | w; subst w; exact absurd ez h58; exact w) (by omega))
            refine wp_iinc1 (pc := 71) (L' := [_, _, _, _, _]) dX9_goLead_71 rfl rfl rfl ?_
            refine wp_goto (pc := 74) 31 dX9_goLead_74 (by decide) ?_
            first | (exact ih (m + 1) M1 (by omega) (by omega) (hd1.congr (fun j hj => by rw [goPn_no hc])) s1; done) | exact ih (m + 1) _ (by omega) (by omega) ((hd1.w (13 + m) (nI (stN (sN P d) v))).congr (fun j hj => by rw [goPn_yes (by omega) hc])) (s1.tr (Sm.w (by omega) (by omega)))
          · have hc : P (8 + m) = nI d ∧ ¬ 0 < P (19 + m) := ⟨h48, by rw [h58]; decide⟩
            refine wp_aload_n (pc := 61) dX9_goLead_61 rfl ?_
            refine wp_bipush (pc := 62) (x := nI 13) dX9_goLead_62 bp_13 ?_
            refine wp_iload (pc := 64) dX9_goLead_64 rfl ?_
            refine wp_iadd (pc := 66) dX9_goLead_66 ?_
            refine wp_aload_n (pc := 67) dX9_goLead_67 rfl ?_
            refine wp_iload_n (pc := 68) dX9_goLead_68 rfl ?_
            refine wf_iald (pc := 69) (j := d) dX9_goLead_69 hpl rfl (by omega) ?_
            rw [show M1.1 p d = nI (stN (sN P d) v) from (hd1.at (by omega)).trans (by unfold goPn; rw [if_pos rfl])]
            refine wf_iast (pc := 70) (j := (13 + m)) dX9_goLead_70 hpl (nI_add _ _) (by omega) ?_
            refine wp_iinc1 (pc := 71) (L' := [_, _, _, _, _]) dX9_goLead_71 rfl rfl rfl ?_
            refine wp_goto (pc := 74) 31 dX9_goLead_74 (by decide) ?_
            first | (exact ih (m + 1) M1 (by omega) (by omega) (hd1.congr (fun j hj => by rw [goPn_no hc])) s1; done) | exact ih (m + 1) _ (by omega) (by omega) ((hd1.w (13 + m) (nI (stN (sN P d) v))).congr (fun j hj => by rw [goPn_yes (by omega) hc])) (s1.tr (Sm.w (by omega) (by omega)))
  refine wp_aload_n (pc := 0) dX9_goLead_0 rfl ?_
  refine wp_iload_n (pc := 1) dX9_goLead_1 rfl ?_
  refine wp_aload_n (pc := 2) dX9_goLead_2 rfl ?_
  refine wp_iload_n (pc := 3) dX9_goLead_3 rfl ?_
  refine wf_iald (pc := 4) (j := d) dX9_goLead_4 hpl rfl (by omega) ?_
  rw [hP.at (show d < 25 by omega), g1]
  refine wp_iload_n (pc := 5) dX9_goLead_5 rfl ?_
  refine wp_ic (pc := 6) (x := nI 1) dX9_goLead_6 ic_1 ?_
  refine wp_icmp_ne (pc := 7) 14 dX9_goLead_7 (by decide) (fun h7 => ?_) (fun h7 => ?_)
  · have e3 : ¬ v = 1 := fun q => h7 (by rw [q])
    refine wp_iload_n (pc := 14) dX9_goLead_14 rfl ?_
    refine wp_ic (pc := 15) (x := nI 2) dX9_goLead_15 ic_2 ?_
    refine wp_icmp_ne (pc := 16) 23 dX9_goLead_16 (by decide) (fun h16 => ?_) (fun h16 => ?_)
    · have e4 : ¬ v = 2 := fun q => h16 (by rw [q])
      have e5 : v = 0 := by omega
      subst e5
      have hst : (sN P d + 0) % 5 = stN (sN P d) 0 := by unfold stN; rw [if_neg (by decide)]
      refine wp_ic (pc := 23) (x := nI 0) dX9_goLead_23 ic_0 ?_
      refine wp_iadd (pc := 24) dX9_goLead_24 ?_
      refine wp_ic (pc := 25) (x := nI 5) dX9_goLead_25 ic_5 ?_
      refine wp_iremN (pc := 26) dX9_goLead_26 (nI_add _ _) rfl (by omega) (by decide) (by decide) ?_
      refine wf_iast (pc := 27) (j := d) dX9_goLead_27 hpl rfl (by omega) ?_
      rw [hst]
      refine wp_ic (pc := 28) (x := nI 0) dX9_goLead_28 ic_0 ?_
      refine wp_istore (pc := 29) (L' := [_, _, _, _, _]) dX9_goLead_29 (Nat.le_of_ble_eq_true rfl) rfl rfl ?_
      exact loop (lM Λ) 0 _ (by omega) (by omega) ((hP.w d _).congr (fun j hj => by rw [goPn_0])) (Sm.w (by omega) (by omega))
    · have e4 : v = 2 := (nI_eq (by omega) (by decide)).mp h16
      subst e4
      have hst : (sN P d + 4) % 5 = stN (sN P d) 2 := by unfold stN; rw [if_pos rfl]
      refine wp_ic (pc := 19) (x := nI 4) dX9_goLead_19 ic_4 ?_
      refine wp_goto (pc := 20) 24 dX9_goLead_20 (by decide) ?_
      refine wp_iadd (pc := 24) dX9_goLead_24 ?_
      refine wp_ic (pc := 25) (x := nI 5) dX9_goLead_25 ic_5 ?_
      refine wp_iremN (pc := 26) dX9_goLead_26 (nI_add _ _) rfl (by omega) (by decide) (by decide) ?_
      refine wf_iast (pc := 27) (j := d) dX9_goLead_27 hpl rfl (by omega) ?_
      rw [hst]
      refine wp_ic (pc := 28) (x := nI 0) dX9_goLead_28 ic_0 ?_
      refine wp_istore (pc := 29) (L' := [_, _, _, _, _]) dX9_goLead_29 (Nat.le_of_ble_eq_true rfl) rfl rfl ?_
      exact loop (lM Λ) 0 _ (by omega) (by omega) ((hP.w d _).congr (fun j hj => by rw [goPn_0])) (Sm.w (by omega) (by omega))
  · have e3 : v = 1 := (nI_eq (by omega) (by decide)).mp h7
    subst e3
    have hst : (sN P d + 1) % 5 = stN (sN P d) 1 := by unfold stN; rw [if_neg (by decide)]
    refine wp_ic (pc := 10) (x := nI 1) dX9_goLead_10 ic_1 ?_
    refine wp_goto (pc := 11) 24 dX9_goLead_11 (by decide) ?_
    refine wp_iadd (pc := 24) dX9_goLead_24 ?_
    refine wp_ic (pc := 25) (x := nI 5) dX9_goLead_25 ic_5 ?_
    refine wp_iremN (pc := 26) dX9_goLead_26 (nI_add _ _) rfl (by omega) (by decide) (by decide) ?_
    refine wf_iast (pc := 27) (j := d) dX9_goLead_27 hpl rfl (by omega) ?_
    rw [hst]
    refine wp_ic (pc := 28) (x := nI 0) dX9_goLead_28 ic_0 ?_
    refine wp_istore (pc := 29) (L' := [_, _, _, _, _]) dX9_goLead_29 (Nat.le_of_ble_eq_true rfl) rfl rfl ?_
    exact loop (lM Λ) 0 _ (by omega) (by omega) ((hP.w d _).congr (fun j hj => by rw [goPn_0])) (Sm.w (by omega) (by omega))
