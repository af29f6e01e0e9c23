theorem XM.sd {M : Mm} {s : Sv} (H : XM M s) (x : Int64) : XM (wJ M 150 26 x) (s.sd x) := by
  obtain ⟨g1, g2, g4, g5, g6, g7, g8, g10⟩ := H
  refine ⟨fun a k b q => g1 a k b q, g2, g4, g5, g6, g7, g8, ?_⟩
  show (wJ M 150 26 x).2.1 150 26 = x
  simp [wJ]
theorem Fm.sd {M : Mm} {x : Int64} : Fm M (wJ M 150 26 x) := ⟨fun a ha k => ⟨rfl, by simp [wJ, show a ≠ 150 by omega]⟩, rfl⟩
theorem cR_days {l : Launch} {K : CtxT} {M : Mm} {s : Sv} {B : Nat} (H : XM M s) (V : OkV B s) (hB : B ≤ 9999) {x : Int32} : Ci l K 2 mX9_days [.ref (K.1 + 150), .int x] M (fun r M' => r = (oDays s x).1 ∧ XM M' (oDays s x).2 ∧ Fm M M') := by
  refine ci_of (L := [some (.ref (K.1 + 150)), some (.int x), none, none, none]) (by decide +kernel) (Nat.le_of_ble_eq_true rfl) rfl rfl (fun E => ?_)
  have loop : ∀ n, 1 ≤ n → n ≤ 30 → ∀ (n' k : Nat) (M1 : Mm) (e' : Int64) (Q : Pg) (c : Nat) (z1 : Option Value), n' = n - k → k ≤ n → dyS s.Λ s.P s.h s.e k = (e', Q, c) → XM M1 (s.sd e') → MT M1 159 0 Q → OkP s.Λ Q (s.h + k) → Fm M M1 → Wp E K mX9_days 2 (0, 0) 28 [some (.ref (K.1 + 150)), some (.int (nI n)), some (.int (nI c)), some (.int (nI k)), z1] [] 168 M1 0 0 (zI E K (fun r M' => r = (oDays s (nI n)).1 ∧ XM M' (oDays s (nI n)).2 ∧ Fm M M')) := by
    intro n hn1 hn30 n'
    induction n' with
    | zero =>
      intro k M1 e' Q c z1 hn hk hy H1 hd ho F1
      refine wp_iload_n (pc := 28) dX9_days_28 rfl ?_
      refine wp_iload_n (pc := 29) dX9_days_29 rfl ?_
      refine wp_icmp_ge (pc := 30) 115 dX9_days_30 (by decide) (fun h30 => ?_) (fun h30 => ?_)
      · have e : k = n := by omega
        subst e
        refine wp_iload_n (pc := 115) dX9_days_115 rfl ?_
        refine wf_iret (pc := 116) dX9_days_116 rfl ?_
        unfold oDays
        rw [if_pos (rg_y (nI_nlt hn1 (by omega)) (nI_nlt hn30 (by omega))), nI_cl (by omega), hy]
        exact ⟨rfl, H1, F1⟩
      · exact absurd (nI_le (by omega) (by omega)) h30
    | succ n' ih =>
      intro k M1 e' Q c z1 hn hk hy H1 hd ho F1
      have hB2 := V.h
      have hD := V.l.1
      have hy2 := dyS_s hy
      obtain ⟨e2, he2⟩ : ∃ e2, nxE e' = e2 := ⟨_, rfl⟩
      rw [he2] at hy2
      have hw := drN_lt e2
      have hdr := dr_eq e2
      generalize drN e2 = w at hw hdr hy2
      obtain ⟨Q2, hQ2⟩ : ∃ Q2, dyQ s.Λ Q w = Q2 := ⟨_, rfl⟩
      rw [hQ2] at hy2
      refine wp_iload_n (pc := 28) dX9_days_28 rfl ?_
      refine wp_iload_n (pc := 29) dX9_days_29 rfl ?_
      refine wp_icmp_ge (pc := 30) 115 dX9_days_30 (by decide) (fun h30 => ?_) (fun h30 => ?_)
      · exact absurd h30 (nI_ge (by omega) (by omega))
      · have H : XM M1 (s.sd e') := H1
        refine wp_aload_n (pc := 33) dX9_days_33 rfl ?_
        refine wp_aload_n (pc := 34) dX9_days_34 rfl ?_
        refine wf_getJ (pc := 35) dX9_days_35 fl_X9_229 lk_150 ?_
        rw [show M1.2.1 150 26 = e' from H1.e]
        refine wp_ldc2 (pc := 38) dX9_days_38 kc_X9_235 ?_
        refine wp_lmul (pc := 41) dX9_days_41 ?_
        refine wp_ldc2 (pc := 42) dX9_days_42 kc_X9_237 ?_
        refine wp_ladd (pc := 45) dX9_days_45 ?_
        refine wp_topJ e2 (by rw [← he2, nxE]) ?_
        refine wf_putJ (pc := 46) dX9_days_46 fl_X9_229 lk_150 ?_
        have H : XM (wJ M1 150 26 e2) (s.sd e2) := H1.sd e2
        have F := F1.tr (Fm.sd (M := M1) (x := e2))
        have ht : MT (wJ M1 150 26 e2) 159 0 Q := hd
        generalize wJ M1 150 26 e2 = M2 at H F ht ⊢
        refine wp_aload_n (pc := 49) dX9_days_49 rfl ?_
        refine wf_getJ (pc := 50) dX9_days_50 fl_X9_229 lk_150 ?_
        rw [show M2.2.1 150 26 = e2 from H.e]
        refine wp_bipush (pc := 53) (x := nI 33) dX9_days_53 bp_33 ?_
        refine wp_lushr (pc := 55) dX9_days_55 ?_
        refine wp_ldc2 (pc := 56) dX9_days_56 kc_X9_206 ?_
        refine wp_lrem (pc := 59) dX9_days_59 (by decide) ?_
        refine wp_l2i (pc := 60) dX9_days_60 ?_
        refine wp_top (nI w) hdr ?_
        refine wp_istore (pc := 61) (L' := [_, _, _, _, _]) dX9_days_61 (Nat.le_of_ble_eq_true rfl) rfl rfl ?_
        refine wp_iload (pc := 63) dX9_days_63 rfl ?_
        refine wp_ic (pc := 65) (x := nI 3) dX9_days_65 ic_3 ?_
        refine wp_idivN (pc := 66) dX9_days_66 rfl rfl (by omega) (by decide) (by decide) ?_
        refine wp_aload_n (pc := 67) dX9_days_67 rfl ?_
        refine wf_getI (pc := 68) dX9_days_68 fl_X9_69 lk_150 ?_
        rw [show M2.1 150 4 = nI (lD s.Λ) from H.w.1]
        refine wp_icmp_ge (pc := 71) 90 dX9_days_71 (by decide) (fun h71 => ?_) (fun h71 => ?_)
        · have h79 : ¬ w / 3 < lD s.Λ := fun q => absurd (nI_lt q (by omega)) (Int32.not_lt.mpr h71)
          have eQ : Q2 = Q := by rw [← hQ2]; exact if_neg h79
          have ht : MT M2 159 0 Q2 := by rw [eQ]; exact ht
          have ho2 : OkP s.Λ Q2 (s.h + k) := by rw [eQ]; exact ho
          refine wp_iload_n (pc := 90) dX9_days_90 rfl ?_
          refine wp_aload_n (pc := 91) dX9_days_91 rfl ?_
          refine wp_aload_n (pc := 92) dX9_days_92 rfl ?_
          refine wf_getR (pc := 93) dX9_days_93 fl_X9_38 lk_150 (H.r 150 17 159 rfl) ?_
          refine wp_aload_n (pc := 96) dX9_days_96 rfl ?_
          refine wf_getI (pc := 97) dX9_days_97 fl_X9_13 lk_150 ?_
          rw [H.w.2.2.1]
          refine wp_ic (pc := 100) (x := nI 0) dX9_days_100 ic_0 ?_
          refine wf_callVi (pc := 101) dX9_days_101 cl_X9_176 (c_goHourR (Λ := s.Λ) H.r V.l.N H.w (p := 159) rfl ht (by decide) ho2 (by omega)) lk_150 rfl rfl rfl rfl (Nat.le_of_ble_eq_true rfl) (by decide) ⟨Nat.le_refl _, Nat.le_refl _⟩ (fun r101 M101 q101 => ?_)
          have F := F.tr (q101.2.2.fm (by decide))
          have H : XM M101 (s.sd e2) := H.scr q101.2.2 (by omega)
          obtain ⟨a, ha, eb⟩ := hour_lt ho2 V.l.N 0 (lLe s.Λ)
          rw [q101.1, eb]
          refine wf_callSi (pc := 104) dX9_days_104 cl_X9_173 (c_many ha) rfl rfl (Nat.le_of_ble_eq_true rfl) (by decide) ⟨Nat.le_refl _, Nat.le_refl _⟩ (fun r104 M104 q104 => ?_)
          rw [q104.1, q104.2]
          refine wp_iadd (pc := 107) dX9_days_107 ?_
          refine wp_top (nI (c + pop5 a)) (nI_add _ _) ?_
          refine wp_istore_n (pc := 108) (L' := [_, _, _, _, _]) dX9_days_108 (Nat.le_of_ble_eq_true rfl) rfl rfl ?_
          refine wp_iinc1 (pc := 109) (L' := [_, _, _, _, _]) dX9_days_109 rfl rfl rfl ?_
          refine wp_goto (pc := 112) 28 dX9_days_112 (by decide) ?_
          rw [eb, nI_cl (by omega)] at hy2
          exact ih (k + 1) M101 e2 _ (c + pop5 a) _ (by omega) (by omega) hy2 H q101.2.1 (ho2.hour V.l.N 0 (lLe s.Λ)) F
        · have h79 : w / 3 < lD s.Λ := by rcases Nat.lt_or_ge (w / 3) (lD s.Λ) with q | q; exact q; exact absurd (nI_le q (by omega)) h71
          have eQ : Q2 = goP s.Λ Q (w / 3) (w % 3) := by rw [← hQ2]; exact if_pos h79
          refine wp_aload_n (pc := 74) dX9_days_74 rfl ?_
          refine wp_aload_n (pc := 75) dX9_days_75 rfl ?_
          refine wf_getR (pc := 76) dX9_days_76 fl_X9_38 lk_150 (H.r 150 17 159 rfl) ?_
          refine wp_iload (pc := 79) dX9_days_79 rfl ?_
          refine wp_ic (pc := 81) (x := nI 3) dX9_days_81 ic_3 ?_
          refine wp_idivN (pc := 82) dX9_days_82 rfl rfl (by omega) (by decide) (by decide) ?_
          refine wp_iload (pc := 83) dX9_days_83 rfl ?_
          refine wp_ic (pc := 85) (x := nI 3) dX9_days_85 ic_3 ?_
          refine wp_iremN (pc := 86) dX9_days_86 rfl rfl (by omega) (by decide) (by decide) ?_
          refine wf_callVv (pc := 87) dX9_days_87 cl_X9_169 (c_goLead (Λ := s.Λ) H.r V.l.N H.w (p := 159) rfl ht (by decide) ho h79 (by omega)) lk_150 rfl rfl rfl rfl (Nat.le_of_ble_eq_true rfl) (by decide) ⟨Nat.le_refl _, Nat.le_refl _⟩ (fun M87 q87 => ?_)
          have F := F.tr (q87.2.fm (by decide))
          have H : XM M87 (s.sd e2) := H.scr q87.2 (by omega)
          have ht : MT M87 159 0 Q2 := by rw [eQ]; exact q87.1
          have ho2 : OkP s.Λ Q2 (s.h + k) := by rw [eQ]; exact ho.go V.l.N h79
          refine wp_iload_n (pc := 90) dX9_days_90 rfl ?_
          refine wp_aload_n (pc := 91) dX9_days_91 rfl ?_
          refine wp_aload_n (pc := 92) dX9_days_92 rfl ?_
          refine wf_getR (pc := 93) dX9_days_93 fl_X9_38 lk_150 (H.r 150 17 159 rfl) ?_
          refine wp_aload_n (pc := 96) dX9_days_96 rfl ?_
          refine wf_getI (pc := 97) dX9_days_97 fl_X9_13 lk_150 ?_
          rw [H.w.2.2.1]
          refine wp_ic (pc := 100) (x := nI 0) dX9_days_100 ic_0 ?_
          refine wf_callVi (pc := 101) dX9_days_101 cl_X9_176 (c_goHourR (Λ := s.Λ) H.r V.l.N H.w (p := 159) rfl ht (by decide) ho2 (by omega)) lk_150 rfl rfl rfl rfl (Nat.le_of_ble_eq_true rfl) (by decide) ⟨Nat.le_refl _, Nat.le_refl _⟩ (fun r101 M101 q101 => ?_)
          have F := F.tr (q101.2.2.fm (by decide))
          have H : XM M101 (s.sd e2) := H.scr q101.2.2 (by omega)
          obtain ⟨a, ha, eb⟩ := hour_lt ho2 V.l.N 0 (lLe s.Λ)
          rw [q101.1, eb]
          refine wf_callSi (pc := 104) dX9_days_104 cl_X9_173 (c_many ha) rfl rfl (Nat.le_of_ble_eq_true rfl) (by decide) ⟨Nat.le_refl _, Nat.le_refl _⟩ (fun r104 M104 q104 => ?_)
          rw [q104.1, q104.2]
          refine wp_iadd (pc := 107) dX9_days_107 ?_
          refine wp_top (nI (c + pop5 a)) (nI_add _ _) ?_
          refine wp_istore_n (pc := 108) (L' := [_, _, _, _, _]) dX9_days_108 (Nat.le_of_ble_eq_true rfl) rfl rfl ?_
          refine wp_iinc1 (pc := 109) (L' := [_, _, _, _, _]) dX9_days_109 rfl rfl rfl ?_
          refine wp_goto (pc := 112) 28 dX9_days_112 (by decide) ?_
          rw [eb, nI_cl (by omega)] at hy2
          exact ih (k + 1) M101 e2 _ (c + pop5 a) _ (by omega) (by omega) hy2 H q101.2.1 (ho2.hour V.l.N 0 (lLe s.Λ)) F
  refine wp_aload_n (pc := 0) dX9_days_0 rfl ?_
  refine wp_ic (pc := 1) (x := nI 0) dX9_days_1 ic_0 ?_
  refine wf_putI (pc := 2) dX9_days_2 fl_X9_66 lk_150 ?_
  have F : Fm M (wI M 150 0 (nI 0)) := Fm.w (by decide)
  have H := H.f (k := 0) (nI 0) (by decide)
  generalize wI M 150 0 (nI 0) = M5 at H F ⊢
  refine wp_iload_n (pc := 5) dX9_days_5 rfl ?_
  refine wp_i2l (pc := 6) dX9_days_6 ?_
  refine wp_lconst (pc := 7) dX9_days_7 rfl ?_
  refine wp_ldc2 (pc := 8) dX9_days_8 kc_X9_233 ?_
  refine wf_callSi (pc := 11) dX9_days_11 cl_X9_72 (c_inR 1 30 rfl (by decide)) rfl rfl (Nat.le_of_ble_eq_true rfl) (by decide) ⟨Nat.le_refl _, Nat.le_refl _⟩ (fun r11 M11 q11 => ?_)
  rw [q11.1, q11.2]
  refine wp_if_ne (pc := 14) 20 dX9_days_14 (by decide) (fun h14 => ?_) (fun h14 => ?_)
  · have h14 := b2i_1 h14
    obtain ⟨n, hn1, hn, ex⟩ := rg_of h14 (by decide) (by decide)
    subst ex
    refine wp_aload_n (pc := 20) dX9_days_20 rfl ?_
    refine wf_callVv (pc := 21) dX9_days_21 cl_X9_182 (c_begin H.r H.p) lk_150 rfl rfl rfl rfl (Nat.le_of_ble_eq_true rfl) (by decide) ⟨Nat.le_refl _, Nat.le_refl _⟩ (fun M21 q21 => ?_)
    have F := F.tr (q21.2.fm (by decide))
    have H := H.scr q21.2 (by omega)
    refine wp_ic (pc := 24) (x := nI 0) dX9_days_24 ic_0 ?_
    refine wp_istore_n (pc := 25) (L' := [_, _, _, _, _]) dX9_days_25 (Nat.le_of_ble_eq_true rfl) rfl rfl ?_
    refine wp_ic (pc := 26) (x := nI 0) dX9_days_26 ic_0 ?_
    refine wp_istore_n (pc := 27) (L' := [_, _, _, _, _]) dX9_days_27 (Nat.le_of_ble_eq_true rfl) rfl rfl ?_
    exact loop n hn1 hn n 0 M21 s.e s.P 0 none (by omega) (by omega) rfl H q21.1 V.p F
  · have h14 := b2i_0 h14
    refine wp_bipush (pc := 17) (x := (-2)) dX9_days_17 bp_m2 ?_
    refine wf_iret (pc := 19) dX9_days_19 rfl ?_
    unfold oDays; rw [h14]
    exact ⟨rfl, H, F⟩
